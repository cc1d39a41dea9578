section CPN
variable {G : GT} {d k n : Nat} {M : MM} {pc : Nat} {ls st : List AV} {σ : Sg} {Q : Option AV → Sg → Prop}
theorem ar_cpN {idx a b N0 N1 : Nat} {sp dp z : Int} (i j m q : Nat) (hq : pc + 3 = q) (hd : decode (bc M) pc = .ok (.invokestatic idx, 3)) (hw : cpW M.1.cls idx) (hka : sk σ a = (10, N0)) (hkb : sk σ b = (10, N1)) (e1 : sp = (i : Int)) (e2 : dp = (j : Int)) (e3 : z = (m : Int)) (hz : i + m ≤ N0 ∧ j + m ≤ N1 ∧ N0 ≤ 2147483647 ∧ N1 ≤ 2147483647) (hst : st.length ≤ 4) (hd1 : 1 ≤ d)
    (kk : WA G d k n M q ls st (cI σ a i b j m) Q) : WA G d k n M pc ls (Vi z :: Vi dp :: Va b :: Vi sp :: Va a :: st) σ Q := by
  subst e1
  subst e2
  subst e3
  exact ar_copyI q hq hd hw hka hkb (by omega) hst hd1 kk
theorem ar_cpRN {idx a b N0 N1 : Nat} {sp dp z : Int} (kd i j m q : Nat) (hq : pc + 3 = q) (hd : decode (bc M) pc = .ok (.invokestatic idx, 3)) (hw : cpW M.1.cls idx) (hkd : 12 ≤ kd ∧ kd ≤ 14) (hka : sk σ a = (kd, N0)) (hkb : sk σ b = (kd, N1)) (e1 : sp = (i : Int)) (e2 : dp = (j : Int)) (e3 : z = (m : Int)) (hz : i + m ≤ N0 ∧ j + m ≤ N1 ∧ N0 ≤ 2147483647 ∧ N1 ≤ 2147483647) (hel : ∀ i0 y : Nat, (i0 : Int) < z → hR σ a (i + i0) = some y → (sk σ y).1 = kO kd + 1) (hst : st.length ≤ 4) (hd1 : 1 ≤ d)
    (kk : WA G d k n M q ls st (cR σ a i b j m) Q) : WA G d k n M pc ls (Vi z :: Vi dp :: Va b :: Vi sp :: Va a :: st) σ Q := by
  subst e1
  subst e2
  subst e3
  exact ar_copyR kd q hq hd hw hkd hka hkb (by omega) hel hst hd1 kk
theorem ar_aastZ {a N kd : Nat} {j : Int} (q : Nat) (hq : pc + 1 = q) (hd : decode (bc M) pc = .ok (.aastore, 1)) (hk : sk σ a = (kd, N)) (hkd : 12 ≤ kd ∧ kd ≤ 14) (hj : 0 ≤ j ∧ j < N ∧ j ≤ 2147483647)
    (kk : WA G d k n M q ls st (wR σ a j.toNat none) Q) : WA G d k n M pc ls (Vr none :: Vi j :: Va a :: st) σ Q := by
  subst hq
  intro p l e R s m args below meth c QM mc ms C hfr hlo hmc hms hret H locs cells slots lsC hR0 hL h1 h2
  have hltA := rep_lt hR0 hk (by omega)
  have hw := wl_get G hltA
  rw [ce_ref hk hkd.1] at hw
  have hin := o_in hj
  have hty := hR0.2.2.2.2.1.2 _ _ (ty_at G (kd := kd) (by omega))
  rw [kO_ty hkd] at hty
  refine va_WaastN (C := (cT (kO kd)).1) C.1 C.2.1 (hR0.2.1 a _ hw) (hty.1 N (fun i => va_rf (cf G (hR σ a i)))) (fun h => by cases h) (by show ¬ (_ < 0 ∨ (arrV _ _ _).slots.size ≤ _); rw [arrV_size]; exact hin) rfl rfl hd fun H' e1 e2 e3 => ?_
  refine kk p l e R s m args below meth c QM mc ms C hfr hlo hmc hms hret H' _ cells slots lsC (rep_upd hR0 hltA rfl rfl (fun b hb => ⟨rfl, by funext i; simp [wR, hR, hb]⟩) ?_ e2 e3 (fun x hx => by rw [List.mem_singleton.mp hx])) hL h1 h2
  rw [ce_ref (σ := wR σ a j.toNat none) hk hkd.1]
  show H'[gB G + a]? = some (vp_cell _ _)
  rw [e1]
  rw [vp_cell_q, vp_cell_q, arrV_store]
  congr 2
  funext i
  rw [o_nat (by omega)]
  by_cases hi : i = j.toNat
  · subst hi
    simp [updV, wR, hR, va_rf, cf]
  · simp [updV, wR, hR, hi]
theorem ar_aasO {a N kd : Nat} {o : Option Nat} {j : Int} (i q : Nat) (hq : pc + 1 = q) (hd : decode (bc M) pc = .ok (.aastore, 1)) (hk : sk σ a = (kd, N)) (hkd : 12 ≤ kd ∧ kd ≤ 14) (hi : j = (i : Int)) (hj : i < N ∧ i ≤ 2147483647) (hv : ∀ v, o = some v → (sk σ v).1 = kO kd + 1)
    (kk : WA G d k n M q ls st (wR σ a i o) Q) : WA G d k n M pc ls (Vr o :: Vi j :: Va a :: st) σ Q := by
  subst hi
  cases o with
  | none => exact ar_aastZ q hq hd hk hkd (by omega) kk
  | some v => exact ar_aast q hq hd hk hkd (by omega) (hv v rfl) kk
end CPN
theorem cR_0 (σ : Sg) (a b : Nat) : cR σ a 0 b 0 0 = σ := by
  refine Prod.ext rfl (Prod.ext ?_ rfl)
  funext c j
  show (if c = b ∧ 0 ≤ j ∧ j < 0 + 0 then σ.2.1 a (0 + (j - 0)) else σ.2.1 c j) = σ.2.1 c j
  rw [if_neg (by omega)]
theorem cR_step {σ : Sg} {a b i : Nat} (h : a ≠ b) : wR (cR σ a 0 b 0 i) b i (hR (cR σ a 0 b 0 i) a i) = cR σ a 0 b 0 (i + 1) := by
  have e : hR (cR σ a 0 b 0 i) a i = hR σ a i := by rw [hR_c, if_neg (by omega)]
  rw [e]
  refine Prod.ext rfl (Prod.ext ?_ rfl)
  funext c j
  show (if c = b ∧ j = i then σ.2.1 a i else if c = b ∧ 0 ≤ j ∧ j < 0 + i then σ.2.1 a (0 + (j - 0)) else σ.2.1 c j) = if c = b ∧ 0 ≤ j ∧ j < 0 + (i + 1) then σ.2.1 a (0 + (j - 0)) else σ.2.1 c j
  by_cases e1 : c = b ∧ j = i
  · rw [if_pos e1, if_pos (by omega), e1.2, Nat.zero_add, Nat.sub_zero]
  · rw [if_neg e1]
    by_cases e2 : c = b ∧ 0 ≤ j ∧ j < 0 + i
    · rw [if_pos e2, if_pos (by omega)]
    · rw [if_neg e2, if_neg (by omega)]
section CPY
variable {G : GT} {d k n : Nat} {σ : Sg} {Q : Option AV → Sg → Prop}
theorem hIcR (σ : Sg) (a sp b dp n c i : Nat) : hI (cR σ a sp b dp n) c i = hI σ c i := rfl
theorem hRcI (σ : Sg) (a sp b dp n c i : Nat) : hR (cI σ a sp b dp n) c i = hR σ c i := rfl
/-- the row of memories of a state has each of its 17 objects once -/
def PRm (σ : Sg) (s : Nat) : Prop := (∀ i, i < 17 → ∃ p, p < 17 ∧ hR σ (s + 4) i = some (s + 7 + 3 * p)) ∧ ∀ i j, i < 17 → j < 17 → hR σ (s + 4) i = hR σ (s + 4) j → i = j
theorem RSm.pr {σ : Sg} {s : Nat} {L : List Mem} (h : RSm σ s L) : PRm σ s := ⟨h.2.2.1, h.2.2.2.1⟩
set_option maxHeartbeats 16000000 in
theorem sp_X4_copyFrom {s w : Nat} {S : SS} (hs : ShS σ s) (hP : PRm σ s) (hW : RSt σ w S) (hdis : s + 58 ≤ w ∨ w + 58 ≤ s) (hs6 : s + 58 ≤ 652) (hlk : ∀ M ∈ S.2.1, (mLk M).length ≤ 18) (hdp : 2 ≤ d) (hQ : ∀ σ', FrS s σ σ' → RSt σ' s S → Q none σ') : WA G d k n mX4_copyFrom 0 [Va s, Va w, Vu] [] σ Q := by
  obtain ⟨f, L, rc⟩ := S
  obtain ⟨hO, hOf, hOr, hOm⟩ := hW
  have hOf : RSf σ w f := hOf
  have hOr : RSr σ w rc := hOr
  have hOm : RSm σ w L := hOm
  have hlk : ∀ M ∈ L, (mLk M).length ≤ 18 := hlk
  have hl17 := hOm.1
  have hO5 := hOm.2.1
  have n0 : ¬ w = s := by omega
  have n1 : ¬ w = s + 1 := by omega
  have hk := hs.1
  have hk1 := hs.2.1
  have hk2 := hs.2.2.1
  have hk3 : sk σ (s + 3) = (14, 6) := hs.2.2.2.1
  have hk4 : sk σ (s + 4) = (12, 17) := hs.2.2.2.2.1
  have hk5 : sk σ (s + 5) = (10, 6) := hs.2.2.2.2.2.1
  have hk6 : sk σ (s + 6) = (10, 6) := hs.2.2.2.2.2.2.1
  have hr0 : hR σ s 0 = some (s + 1) := hs.2.2.2.2.2.2.2.1
  have hr2 : hR σ s 2 = some (s + 2) := hs.2.2.2.2.2.2.2.2.1
  have hr3 : hR σ s 3 = some (s + 3) := hs.2.2.2.2.2.2.2.2.2.1
  have hr4 : hR σ s 4 = some (s + 4) := hs.2.2.2.2.2.2.2.2.2.2.1
  have hr7 : hR σ s 7 = some (s + 5) := hs.2.2.2.2.2.2.2.2.2.2.2.1
  have hr8 : hR σ s 8 = some (s + 6) := hs.2.2.2.2.2.2.2.2.2.2.2.2.1
  have ok := hO.1
  have ok1 := hO.2.1
  have ok2 := hO.2.2.1
  have ok3 : sk σ (w + 3) = (14, 6) := hO.2.2.2.1
  have ok4 : sk σ (w + 4) = (12, 17) := hO.2.2.2.2.1
  have ok5 : sk σ (w + 5) = (10, 6) := hO.2.2.2.2.2.1
  have ok6 : sk σ (w + 6) = (10, 6) := hO.2.2.2.2.2.2.1
  have or0 : hR σ w 0 = some (w + 1) := hO.2.2.2.2.2.2.2.1
  have or2 : hR σ w 2 = some (w + 2) := hO.2.2.2.2.2.2.2.2.1
  have or3 : hR σ w 3 = some (w + 3) := hO.2.2.2.2.2.2.2.2.2.1
  have or4 : hR σ w 4 = some (w + 4) := hO.2.2.2.2.2.2.2.2.2.2.1
  have or7 : hR σ w 7 = some (w + 5) := hO.2.2.2.2.2.2.2.2.2.2.2.1
  have or8 : hR σ w 8 = some (w + 6) := hO.2.2.2.2.2.2.2.2.2.2.2.2.1
  have loopR : ∀ σ0 : Sg, sk σ0 = sk σ → hR σ0 = hR σ → WA G d k n mX4_copyFrom 67 [Va s, Va w, Vi 6] [] (cR σ0 (w + 3) 0 (s + 3) 0 6) Q → WA G d k n mX4_copyFrom 43 [Va s, Va w, Vi 0] [] σ0 Q := by
    intro σ0 hz1 hz2 kk
    have lp : ∀ r i : Nat, 6 - i = r → i ≤ 6 → WA G d k n mX4_copyFrom 43 [Va s, Va w, Vi (i : Int)] [] (cR σ0 (w + 3) 0 (s + 3) 0 i) Q := by
      intro r
      induction r using Nat.strongRecOn with
      | ind r ih =>
      intro i hr hi
      have a1 : (sk (cR σ0 (w + 3) 0 (s + 3) 0 i) s).1 = 5 := by
        show (sk σ0 s).1 = 5
        rw [hz1]
        exact hk
      have a2 : (sk (cR σ0 (w + 3) 0 (s + 3) 0 i) w).1 = 5 := by
        show (sk σ0 w).1 = 5
        rw [hz1]
        exact ok
      have a3 : sk (cR σ0 (w + 3) 0 (s + 3) 0 i) (s + 3) = (14, 6) := by
        show sk σ0 (s + 3) = (14, 6)
        rw [hz1]
        exact hk3
      have a4 : sk (cR σ0 (w + 3) 0 (s + 3) 0 i) (w + 3) = (14, 6) := by
        show sk σ0 (w + 3) = (14, 6)
        rw [hz1]
        exact ok3
      have b1 : hR (cR σ0 (w + 3) 0 (s + 3) 0 i) s 3 = some (s + 3) := by
        rw [hR_c, if_neg (by omega), hz2]
        exact hr3
      have b2 : hR (cR σ0 (w + 3) 0 (s + 3) 0 i) w 3 = some (w + 3) := by
        rw [hR_c, if_neg (by omega), hz2]
        exact or3
      refine ar_iload_n 44 rfl d_X4_copyFrom_43 rfl ?_
      refine ar_bipush 46 rfl d_X4_copyFrom_44 rfl ?_
      refine ar_icmp_ge 67 49 rfl rfl d_X4_copyFrom_46 (by omega) (by omega) (fun g46 => ?_) (fun g46 => ?_)
      · have hi6 : i = 6 := by omega
        subst hi6
        exact kk
      · refine ar_aload_n 50 rfl d_X4_copyFrom_49 rfl ?_
        refine ar_getA 53 rfl d_X4_copyFrom_50 fl_X4_20 rfl a1 b1 ?_
        refine ar_iload_n 54 rfl d_X4_copyFrom_53 rfl ?_
        refine ar_aload_n 55 rfl d_X4_copyFrom_54 rfl ?_
        refine ar_getA 58 rfl d_X4_copyFrom_55 fl_X4_20 rfl a2 b2 ?_
        refine ar_iload_n 59 rfl d_X4_copyFrom_58 rfl ?_
        refine ar_aald 60 rfl d_X4_copyFrom_59 a4 (by omega) (by omega) ?_
        refine ar_aasO (kd := 14) i 61 rfl d_X4_copyFrom_60 a3 (by omega) rfl (by omega) (fun v hv => ?_) ?_
        · have hv : hR (cR σ0 (w + 3) 0 (s + 3) 0 i) (w + 3) i = some v := hv
          rw [hR_c, if_neg (by omega), hz2] at hv
          show (sk σ0 v).1 = 4
          rw [hz1]
          rcases hOr i (by omega) with e | ⟨_, r1, _, _, e2, e3⟩
          · exact absurd (hv.symm.trans e.2) (by simp)
          · cases hv.symm.trans e2
            exact e3.1
        refine ar_inc_2 (y := ((i + 1 : Nat) : Int)) 64 rfl d_X4_copyFrom_61 rfl (by intro _ h; cases h) (by omega) ?_
        refine ar_goto 43 rfl d_X4_copyFrom_64 ?_
        have hn := ih (6 - (i + 1)) (by omega) (i + 1) rfl (by omega)
        rw [← cR_step (show w + 3 ≠ s + 3 by omega)] at hn
        exact hn
    have hn := lp 6 0 rfl (by omega)
    rw [cR_0] at hn
    exact hn
  have loop : ∀ r i : Nat, ∀ σi, L.length - i = r → i ≤ L.length → FrI (s + 7) (s + 58) (wI (cR (cI (wI (cI σ (w + 1) 0 (s + 1) 0 12) s 1 (hI (cI σ (w + 1) 0 (s + 1) 0 12) w 1)) (w + 2) 0 (s + 2) 0 2) (w + 3) 0 (s + 3) 0 6) s 5 (L.length : Int)) σi → (∀ j M m, j < i → L[j]? = some M → hR σ (s + 4) j = some m → RM σi m M) → WA G d k n mX4_copyFrom 77 [Va s, Va w, Vi (i : Int)] [] σi Q := by
    intro r
    induction r using Nat.strongRecOn with
    | ind r ih =>
    intro i σi hr hi hf hj9
    have e5 := hf.1
    have hski : sk σi = sk σ := by
      show σi.2.2.1 = _
      rw [e5]
      rfl
    have hsni : sn σi = sn σ := by
      show σi.2.2.2 = _
      rw [e5]
      rfl
    have hrr5 : ∀ b j, hR σi b j = if b = s + 3 ∧ 0 ≤ j ∧ j < 0 + 6 then hR σ (w + 3) (0 + (j - 0)) else hR σ b j := fun b j => by
      show σi.2.1 b j = _
      rw [e5]
      rfl
    have hrri : ∀ b, b ≠ s + 3 → hR σi b = hR σ b := fun b hb => by
      funext j
      rw [hrr5, if_neg (by omega)]
    have hr35 : ∀ l, l < 6 → hR σi (s + 3) l = hR σ (w + 3) l := fun l hl => by
      rw [hrr5, if_pos (by omega), Nat.zero_add, Nat.sub_zero]
    have hi5 : hI σi s 5 = (L.length : Int) := by rw [hf.2 s (by omega), hI_w, if_pos ⟨rfl, rfl⟩]
    have hoj : ∀ b, (b < s ∨ s + 58 ≤ b) → hI σi b = hI σ b := fun b hb => by
      rw [hf.2 b (by omega)]
      funext j
      rw [hI_w, if_neg (by omega), hIcR, hI_c, if_neg (by omega), hI_w, if_neg (by omega), hI_c, if_neg (by omega)]
    have hoi : ∀ b, (w ≤ b ∧ b < w + 58) → hI σi b = hI σ b := fun b hb => hoj b (by omega)
    have h15 : ∀ (_ : Unit) j, j < 12 → hI σi (s + 1) j = hI σ (w + 1) j := fun _ j hj => by
      rw [hf.2 _ (by omega), hI_w, if_neg (by omega), hIcR, hI_c, if_neg (by omega), hI_w, if_neg (by omega), hI_c, if_pos (by omega), Nat.zero_add, Nat.sub_zero]
    have h25 : ∀ (_ : Unit) j, j < 2 → hI σi (s + 2) j = hI σ (w + 2) j := fun _ j hj => by
      rw [hf.2 _ (by omega), hI_w, if_neg (by omega), hIcR, hI_c, if_pos (by omega), Nat.zero_add, Nat.sub_zero, hI_w, if_neg (by omega), hI_c, if_neg (by omega)]
    have hp5 : hI σi s 1 = hI σ w 1 := by
      rw [hf.2 _ (by omega), hI_w, if_neg (by omega), hIcR, hI_c, if_neg (by omega), hI_w, if_pos ⟨rfl, rfl⟩, hI_c, if_neg (by omega)]
    have hki : (sk σi s).1 = 5 := by rw [hski]; exact hk
    have oki : (sk σi w).1 = 5 := by rw [hski]; exact ok
    have hk4i : sk σi (s + 4) = (12, 17) := by rw [hski]; exact hk4
    have ok4i : sk σi (w + 4) = (12, 17) := by rw [hski]; exact ok4
    have hk5i : sk σi (s + 5) = (10, 6) := by rw [hski]; exact hk5
    have ok5i : sk σi (w + 5) = (10, 6) := by rw [hski]; exact ok5
    have hk6i : sk σi (s + 6) = (10, 6) := by rw [hski]; exact hk6
    have ok6i : sk σi (w + 6) = (10, 6) := by rw [hski]; exact ok6
    have hr4i : hR σi s 4 = some (s + 4) := by rw [hrri _ (by omega)]; exact hr4
    have or4i : hR σi w 4 = some (w + 4) := by rw [hrri _ (by omega)]; exact or4
    have hr7i : hR σi s 7 = some (s + 5) := by rw [hrri _ (by omega)]; exact hr7
    have or7i : hR σi w 7 = some (w + 5) := by rw [hrri _ (by omega)]; exact or7
    have hr8i : hR σi s 8 = some (s + 6) := by rw [hrri _ (by omega)]; exact hr8
    have or8i : hR σi w 8 = some (w + 6) := by rw [hrri _ (by omega)]; exact or8
    refine ar_iload_n 78 rfl d_X4_copyFrom_77 rfl ?_
    refine ar_aload_n 79 rfl d_X4_copyFrom_78 rfl ?_
    refine ar_giv (y := (L.length : Int)) 82 rfl d_X4_copyFrom_79 fl_X4_47 rfl (by assumption) hi5 ?_
    refine ar_icmp_ge 106 85 rfl rfl d_X4_copyFrom_82 (by omega) (by omega) (fun g82 => ?_) (fun g82 => ?_)
    · have hiL : i = L.length := by omega
      subst hiL
      refine ar_aload_n 107 rfl d_X4_copyFrom_106 rfl ?_
      refine ar_aload_n 108 rfl d_X4_copyFrom_107 rfl ?_
      refine ar_getI 111 rfl d_X4_copyFrom_108 fl_X4_54 rfl oki ?_
      refine ar_putI 114 rfl d_X4_copyFrom_111 fl_X4_54 rfl rfl hki ?_
      refine ar_aload_n 115 rfl d_X4_copyFrom_114 rfl ?_
      refine ar_getA 118 rfl d_X4_copyFrom_115 fl_X4_30 rfl oki or7i ?_
      refine ar_iconst 119 rfl d_X4_copyFrom_118 ?_
      refine ar_aload_n 120 rfl d_X4_copyFrom_119 rfl ?_
      refine ar_getA 123 rfl d_X4_copyFrom_120 fl_X4_30 rfl hki hr7i ?_
      refine ar_iconst 124 rfl d_X4_copyFrom_123 ?_
      refine ar_bipush 126 rfl d_X4_copyFrom_124 rfl ?_
      refine ar_cpN 0 0 6 129 rfl d_X4_copyFrom_126 cp_X4_37 (by assumption) (by assumption) (by omega) (by omega) (by omega) (by omega) (Nat.le_of_ble_eq_true rfl) (by omega) ?_
      refine ar_aload_n 130 rfl d_X4_copyFrom_129 rfl ?_
      refine ar_getA 133 rfl d_X4_copyFrom_130 fl_X4_33 rfl oki or8i ?_
      refine ar_iconst 134 rfl d_X4_copyFrom_133 ?_
      refine ar_aload_n 135 rfl d_X4_copyFrom_134 rfl ?_
      refine ar_getA 138 rfl d_X4_copyFrom_135 fl_X4_33 rfl hki hr8i ?_
      refine ar_iconst 139 rfl d_X4_copyFrom_138 ?_
      refine ar_bipush 141 rfl d_X4_copyFrom_139 rfl ?_
      refine ar_cpN 0 0 6 144 rfl d_X4_copyFrom_141 cp_X4_37 (by assumption) (by assumption) (by omega) (by omega) (by omega) (by omega) (Nat.le_of_ble_eq_true rfl) (by omega) ?_
      refine ar_aload_n 145 rfl d_X4_copyFrom_144 rfl ?_
      refine ar_aload_n 146 rfl d_X4_copyFrom_145 rfl ?_
      refine ar_getI 149 rfl d_X4_copyFrom_146 fl_X4_57 rfl oki ?_
      refine ar_putI 152 rfl d_X4_copyFrom_149 fl_X4_57 rfl rfl hki ?_
      refine ar_aload_n 153 rfl d_X4_copyFrom_152 rfl ?_
      refine ar_aload_n 154 rfl d_X4_copyFrom_153 rfl ?_
      refine ar_getI 157 rfl d_X4_copyFrom_154 fl_X4_60 rfl oki ?_
      refine ar_putI 160 rfl d_X4_copyFrom_157 fl_X4_60 rfl rfl hki ?_
      refine WA.ret none ⟨d_X4_copyFrom_160, rfl, rfl⟩ ?_
      have hfin : ∀ b, (s + 7 ≤ b ∧ b < s + 58) → hI (wI (wI (cI (cI (wI σi s 6 (hI σi w 6)) (w + 5) 0 (s + 5) 0 6) (w + 6) 0 (s + 6) 0 6) s 9 (hI (cI (cI (wI σi s 6 (hI σi w 6)) (w + 5) 0 (s + 5) 0 6) (w + 6) 0 (s + 6) 0 6) w 9)) s 10 (hI (wI (cI (cI (wI σi s 6 (hI σi w 6)) (w + 5) 0 (s + 5) 0 6) (w + 6) 0 (s + 6) 0 6) s 9 (hI (cI (cI (wI σi s 6 (hI σi w 6)) (w + 5) 0 (s + 5) 0 6) (w + 6) 0 (s + 6) 0 6) w 9)) w 10)) b = hI σi b := by
        intro b hb
        funext j
        rw [hI_w, if_neg (by omega), hI_w, if_neg (by omega), hI_c, if_neg (by omega), hI_c, if_neg (by omega), hI_w, if_neg (by omega)]
      refine hQ _ ?_ ⟨?_, ?_, ?_, ?_⟩
      · refine ⟨hski, hsni, fun b hb => ⟨?_, hrri b (by omega)⟩⟩
        funext j
        rw [hI_w, if_neg (by omega), hI_w, if_neg (by omega), hI_c, if_neg (by omega), hI_c, if_neg (by omega), hI_w, if_neg (by omega), hoj b hb]
      · refine ShS.fr hs ?_ (fun b hb hb2 => ?_)
        · exact hski
        · exact hrri b (by omega)
      · refine ⟨fun j hj => ?_, ?_, ?_, ?_, fun l hl => ?_, fun l hl => ?_, ?_, ?_, ?_⟩
        · simp only [hI_w, hI_c]
          rw [if_neg (by omega), if_neg (by omega), if_neg (by omega), if_neg (by omega), if_neg (by omega), h15 () j hj]
          exact hOf.1 j hj
        · obtain ⟨pm, p1, p2, p3⟩ := hOf.2.1
          refine ⟨pm, p1, ?_, p3⟩
          simp only [hI_w, hI_c]
          rw [if_neg (by omega), if_neg (by omega), if_neg (by omega), if_neg (by omega), if_neg (by omega), hp5]
          exact p2
        · simp only [hI_w, hI_c]
          rw [if_neg (by omega), if_neg (by omega), if_neg (by omega), if_neg (by omega), if_neg (by omega), h25 () 0 (by omega)]
          exact hOf.2.2.1
        · simp only [hI_w, hI_c]
          rw [if_neg (by omega), if_neg (by omega), if_neg (by omega), if_neg (by omega), if_neg (by omega), h25 () 1 (by omega)]
          exact hOf.2.2.2.1
        · rw [hI_w, if_neg (by omega), hI_w, if_neg (by omega), hI_c, if_neg (by omega), hI_c, if_pos ⟨rfl, by omega, by omega⟩, hI_w, if_neg (by omega), hoi _ (by omega), Nat.zero_add, Nat.sub_zero]
          exact hOf.2.2.2.2.1 l hl
        · rw [hI_w, if_neg (by omega), hI_w, if_neg (by omega), hI_c, if_pos ⟨rfl, by omega, by omega⟩, hI_c, if_neg (by omega), hI_w, if_neg (by omega), hoi _ (by omega), Nat.zero_add, Nat.sub_zero]
          exact hOf.2.2.2.2.2.1 l hl
        · rw [hI_w, if_neg (by omega), hI_w, if_pos ⟨rfl, rfl⟩, hI_c, if_neg (by omega), hI_c, if_neg (by omega), hI_w, if_neg (by omega), hoi _ (by omega)]
          exact hOf.2.2.2.2.2.2.1
        · rw [hI_w, if_pos ⟨rfl, rfl⟩, hI_w, if_neg (by omega), hI_c, if_neg (by omega), hI_c, if_neg (by omega), hI_w, if_neg (by omega), hoi _ (by omega)]
          exact hOf.2.2.2.2.2.2.2.1
        · rw [hI_w, if_neg (by omega), hI_w, if_neg (by omega), hI_c, if_neg (by omega), hI_c, if_neg (by omega), hI_w, if_pos ⟨rfl, rfl⟩, hoi _ (by omega)]
          exact hOf.2.2.2.2.2.2.2.2
      · refine RSr.fr (s := w) hOr (fun b hb hb2 => ⟨?_, ?_, ?_⟩) (fun l hl => ?_) (Nat.le_of_eq hsni.symm)
        · rw [← hski]
          rfl
        · funext j
          simp only [hI_w, hI_c]
          rw [if_neg (by omega), if_neg (by omega), if_neg (by omega), if_neg (by omega), if_neg (by omega), hoj _ (by omega)]
        · exact hrri b (by omega)
        · exact hr35 l hl
      · refine ⟨hOm.1, ?_, fun j hj => ?_, fun j1 j2 a1 a2 e => ?_, fun j M m hM hm => ?_⟩
        · simp only [hI_w, hI_c]
          rw [if_neg (by omega), if_neg (by omega), if_neg (by omega), if_neg (by omega), if_neg (by omega)]
          exact hi5
        · obtain ⟨pm, a1, a2⟩ := hP.1 j hj
          exact ⟨pm, a1, (congrFun (hrri (s + 4) (by omega)) j).trans a2⟩
        · have e : hR σi (s + 4) j1 = hR σi (s + 4) j2 := e
          rw [hrri _ (by omega)] at e
          exact hP.2 j1 j2 a1 a2 e
        · have hM : L[j]? = some M := hM
          have hm : hR σi (s + 4) j = some m := hm
          rw [hrri _ (by omega)] at hm
          have hjl := (List.getElem?_eq_some_iff.mp hM).1
          obtain ⟨pm, a1, a2⟩ := hP.1 j (by omega)
          rw [hm] at a2
          cases a2
          have h9 := hj9 j M _ hjl hM hm
          unfold RM at h9 ⊢
          rw [hfin _ (by omega), hfin _ (by omega), hfin _ (by omega)]
          exact h9
    · have hlt : i < L.length := by omega
      have hx0 : L[i]? = some L[i] := List.getElem?_eq_getElem hlt
      obtain ⟨pm, hpm, hm1⟩ := hP.1 i (by omega)
      obtain ⟨mo, hmo, hsho, hlo, hhi⟩ := hOm.at hO (i := i) (by omega)
      have hsm := hs.2.2.2.2.2.2.2.2.2.2.2.2.2 pm hpm
      have hsm' : ShM σi (s + 7 + 3 * pm) := by
        unfold ShM at hsm ⊢
        rw [hski, hrri _ (by omega)]
        exact hsm
      have hso' : ShM σi mo := by
        unfold ShM at hsho ⊢
        rw [hski, hrri _ (by omega)]
        exact hsho
      have hm1' : hR σi (s + 4) i = some (s + 7 + 3 * pm) := by rw [hrri _ (by omega)]; exact hm1
      have hmo' : hR σi (w + 4) i = some mo := by rw [hrri _ (by omega)]; exact hmo
      have hRMo := hOm.2.2.2.2 i _ mo hx0 hmo
      have hRMo' : RM σi mo L[i] := by
        unfold RM at hRMo ⊢
        rw [hoi _ (by omega), hoi _ (by omega), hoi _ (by omega)]
        exact hRMo
      refine ar_aload_n 86 rfl d_X4_copyFrom_85 rfl ?_
      refine ar_getA 89 rfl d_X4_copyFrom_86 fl_X4_26 rfl hki hr4i ?_
      refine ar_iload_n 90 rfl d_X4_copyFrom_89 rfl ?_
      refine ar_aalA 91 rfl d_X4_copyFrom_90 hk4i (by omega) (by omega) hm1' ?_
      refine ar_aload_n 92 rfl d_X4_copyFrom_91 rfl ?_
      refine ar_getA 95 rfl d_X4_copyFrom_92 fl_X4_26 rfl oki or4i ?_
      refine ar_iload_n 96 rfl d_X4_copyFrom_95 rfl ?_
      refine ar_aalA 97 rfl d_X4_copyFrom_96 ok4i (by omega) (by omega) hmo' ?_
      refine ar_callV0 (M' := mX1_copyFrom) (As := [_]) (ls' := [Va _, Vr _]) 100 rfl d_X4_copyFrom_97 ml_X4_50 mt_X1_copyFrom hsm'.1 rfl (Nat.le_of_ble_eq_true rfl) rfl (Nat.le_of_ble_eq_true rfl) (by omega) ?_
      refine sp_X1_copyFrom hsm' hso' hRMo' (hlk _ (List.getElem_mem hlt)) (by omega) (by omega) (fun σ1 hf1 hM1 => ?_)
      refine ar_inc_2 (y := ((i + 1 : Nat) : Int)) 103 rfl d_X4_copyFrom_100 rfl (by intro _ h; cases h) (by omega) ?_
      refine ar_goto 77 rfl d_X4_copyFrom_103 ?_
      refine ih (L.length - (i + 1)) (by omega) (i + 1) σ1 rfl (by omega) (hf.tr (FrI.sub hf1 (by omega) (by omega))) (fun j M m hj hM hm => ?_)
      by_cases e : j = i
      · subst e
        rw [hx0] at hM
        cases hM
        rw [hm1] at hm
        cases hm
        exact hM1
      · obtain ⟨pj, hpj, hmj⟩ := hP.1 j (by omega)
        rw [hm] at hmj
        cases hmj
        have hne : pj ≠ pm := by
          intro q
          subst q
          exact e (hP.2 j i (by omega) (by omega) (hm.trans hm1.symm))
        exact RM.fr (hj9 j M _ (by omega) hM hm) hf1 (by omega)
  refine ar_aload_n 1 rfl d_X4_copyFrom_0 rfl ?_
  refine ar_getA 4 rfl d_X4_copyFrom_1 fl_X4_9 rfl (by assumption) (by assumption) ?_
  refine ar_iconst 5 rfl d_X4_copyFrom_4 ?_
  refine ar_aload_n 6 rfl d_X4_copyFrom_5 rfl ?_
  refine ar_getA 9 rfl d_X4_copyFrom_6 fl_X4_9 rfl (by assumption) (by assumption) ?_
  refine ar_iconst 10 rfl d_X4_copyFrom_9 ?_
  refine ar_bipush 12 rfl d_X4_copyFrom_10 rfl ?_
  refine ar_cpN 0 0 12 15 rfl d_X4_copyFrom_12 cp_X4_37 (by assumption) (by assumption) (by omega) (by omega) (by omega) (by omega) (Nat.le_of_ble_eq_true rfl) (by omega) ?_
  refine ar_aload_n 16 rfl d_X4_copyFrom_15 rfl ?_
  refine ar_aload_n 17 rfl d_X4_copyFrom_16 rfl ?_
  refine ar_getI 20 rfl d_X4_copyFrom_17 fl_X4_43 rfl (by assumption) ?_
  refine ar_putI 23 rfl d_X4_copyFrom_20 fl_X4_43 rfl rfl (by assumption) ?_
  refine ar_aload_n 24 rfl d_X4_copyFrom_23 rfl ?_
  refine ar_getA 27 rfl d_X4_copyFrom_24 fl_X4_15 rfl (by assumption) (by assumption) ?_
  refine ar_iconst 28 rfl d_X4_copyFrom_27 ?_
  refine ar_aload_n 29 rfl d_X4_copyFrom_28 rfl ?_
  refine ar_getA 32 rfl d_X4_copyFrom_29 fl_X4_15 rfl (by assumption) (by assumption) ?_
  refine ar_iconst 33 rfl d_X4_copyFrom_32 ?_
  refine ar_aload_n 34 rfl d_X4_copyFrom_33 rfl ?_
  refine ar_getA 37 rfl d_X4_copyFrom_34 fl_X4_15 rfl (by assumption) (by assumption) ?_
  refine ar_alen 38 rfl d_X4_copyFrom_37 (by assumption) (by omega) ?_
  refine ar_cpN 0 0 2 41 rfl d_X4_copyFrom_38 cp_X4_37 (by assumption) (by assumption) (by omega) (by omega) (by omega) (by omega) (Nat.le_of_ble_eq_true rfl) (by omega) ?_
  refine ar_iconst 42 rfl d_X4_copyFrom_41 ?_
  refine ar_ist_2 43 rfl d_X4_copyFrom_42 rfl (by intro _ h; cases h) ?_
  refine loopR _ rfl rfl ?_
  refine ar_aload_n 68 rfl d_X4_copyFrom_67 rfl ?_
  refine ar_aload_n 69 rfl d_X4_copyFrom_68 rfl ?_
  refine ar_giv (y := (L.length : Int)) 72 rfl d_X4_copyFrom_69 fl_X4_47 rfl (by assumption) (by simp [hI_w, hI_c, hIcR, n0, n1]; exact hO5) ?_
  refine ar_putI 75 rfl d_X4_copyFrom_72 fl_X4_47 rfl rfl (by assumption) ?_
  refine ar_iconst 76 rfl d_X4_copyFrom_75 ?_
  refine ar_ist_2 77 rfl d_X4_copyFrom_76 rfl (by intro _ h; cases h) ?_
  exact loop _ 0 _ rfl (by omega) FrI.rf (fun j M m hj => absurd hj (by omega))
end CPY
