-- ===== the reference bakes freshly =====
def FrK (l : Nat) (σ σ' : Sg) : Prop := σ'.2 = σ.2 ∧ (∀ b, b ≠ 644 → b ≠ 645 → b ≠ 650 → b ≠ 651 → hI σ' b = hI σ b) ∧ ∀ b j, b = 650 ∨ b = 651 → j ≠ l → hI σ' b j = hI σ b j
theorem FrK.rf {l : Nat} {σ : Sg} : FrK l σ σ := ⟨rfl, fun _ _ _ _ _ => rfl, fun _ _ _ _ => rfl⟩
theorem FrK.tr {l : Nat} {σ σ1 σ2 : Sg} (h : FrK l σ σ1) (h2 : FrK l σ1 σ2) : FrK l σ σ2 := ⟨h2.1.trans h.1, fun b a1 a2 a3 a4 => (h2.2.1 b a1 a2 a3 a4).trans (h.2.1 b a1 a2 a3 a4), fun b j a1 a2 => (h2.2.2 b j a1 a2).trans (h.2.2 b j a1 a2)⟩
theorem FrK.w {l b j : Nat} {x : Int} {σ : Sg} (hb : b = 644 ∨ b = 645 ∨ ((b = 650 ∨ b = 651) ∧ j = l)) : FrK l σ (wI σ b j x) :=
  ⟨rfl, fun c a1 a2 a3 a4 => hI_off (by omega), fun c i a1 a2 => by rw [hI_w, if_neg (by omega)]⟩
/-- loaf l is baked freshly: t the shelves seen, p the pile -/
def Rk (σ0 : Sg) (l t : Nat) (p : List Int) (σ : Sg) : Prop := FrK l σ0 σ ∧ hI σ 650 l = 100 ∧ hI σ 651 l = (t : Int) ∧ hI σ 645 l = (p.length : Int) ∧ ∀ i x, p.reverse[i]? = some x → hI σ 644 (40 * l + i) = x
theorem Rk.push {σ0 σ : Sg} {l t : Nat} {p : List Int} {v : Int} (h : Rk σ0 l t p σ) : Rk σ0 l t (v :: p) (wI (wI σ 644 (40 * l + p.length) v) 645 l ((p.length + 1 : Nat) : Int)) := by
  obtain ⟨h1, h2, h3, h4, h5⟩ := h
  refine ⟨h1.tr ((FrK.w (by omega)).tr (FrK.w (by omega))), ?_, ?_, ?_, fun j x hj => ?_⟩
  · rw [hI_off (by omega), hI_off (by omega)]; exact h2
  · rw [hI_off (by omega), hI_off (by omega)]; exact h3
  · rw [hI_w, if_pos ⟨rfl, rfl⟩]; rfl
  · rw [hI_off (by omega), hI_w]
    rw [List.reverse_cons] at hj
    by_cases e : j < p.length
    · rw [if_neg (by omega)]
      rw [List.getElem?_append_left (by rw [List.length_reverse]; exact e)] at hj
      exact h5 j x hj
    · have hi := (List.getElem?_eq_some_iff.mp hj).1
      simp only [List.length_append, List.length_reverse, List.length_cons, List.length_nil] at hi
      have e2 : j = p.length := by omega
      subst e2
      rw [List.getElem?_append_right (by rw [List.length_reverse]; omega), List.length_reverse, Nat.sub_self] at hj
      simp only [List.getElem?_cons_zero] at hj
      cases hj
      rw [if_pos ⟨rfl, rfl⟩]
theorem Rk.pop {σ0 σ : Sg} {l t : Nat} {p : List Int} {v : Int} (h : Rk σ0 l t (v :: p) σ) : hI σ 645 l = ((p.length + 1 : Nat) : Int) ∧ hI σ 644 (40 * l + p.length) = v ∧ Rk σ0 l t p (wI σ 645 l (p.length : Int)) := by
  obtain ⟨h1, h2, h3, h4, h5⟩ := h
  refine ⟨h4, ?_, h1.tr (FrK.w (by omega)), ?_, ?_, ?_, fun j x hj => ?_⟩
  · refine h5 p.length v ?_
    rw [List.reverse_cons, List.getElem?_append_right (by rw [List.length_reverse]; omega), List.length_reverse, Nat.sub_self]
    rfl
  · rw [hI_off (by omega)]; exact h2
  · rw [hI_off (by omega)]; exact h3
  · rw [hI_w, if_pos ⟨rfl, rfl⟩]
  · rw [hI_off (by omega)]
    have hi := (List.getElem?_eq_some_iff.mp hj).1
    refine h5 j x ?_
    rw [List.reverse_cons, List.getElem?_append_left hi]
    exact hj
theorem Rk.or {σ0 σ : Sg} {l t : Nat} {p : List Int} (h : Rk σ0 l t p σ) (t' : Nat) : Rk σ0 l t' p (wI σ 651 l (t' : Int)) := by
  obtain ⟨h1, h2, h3, h4, h5⟩ := h
  refine ⟨h1.tr (FrK.w (by omega)), ?_, ?_, ?_, fun j x hj => ?_⟩
  · rw [hI_off (by omega)]; exact h2
  · rw [hI_w, if_pos ⟨rfl, rfl⟩]
  · rw [hI_off (by omega)]; exact h4
  · rw [hI_off (by omega)]; exact h5 j x hj
theorem oK_b {l : Nat} {c : Rcpe} {x : Int × Int} (hc : WFc l c) (hx : x ∈ c) : i32 (oK x) ∧ (oK x = 7 ↔ x.1 = 6) := by
  have hxc := hc.2 x hx
  have h1 := hxc.1
  have h2 := hxc.2.1
  unfold oK
  refine ⟨?_, ?_⟩
  · split
    · split <;> constructor <;> omega
    · constructor <;> omega
  · split
    · split <;> constructor <;> intro h <;> omega
    · constructor <;> intro h <;> omega
section REF8
variable {G : GT} {d k n : Nat} {Q : Option AV → Sg → Prop}
theorem rk_pre {a l a0 : Nat} {S : SS} {c : Rcpe} {σ : Sg} {x : Int × Int} {x4 x5 x6 : AV} (ha6 : a = 626 ∨ a = 627) (hl : l < 6) (hcS : S.2.2 l = c) (hc : WFc l c) (hS : Sh6 σ) (hr : Rs (hI σ a) S) (hx : c[a0]? = some x)
    (hk : WA G d k n mX6_reckonLoaf 64 [Va 625, Va a, Vi (l : Int), Vi ((a0 + 1 : Nat) : Int), Vi (oK x), Vi (oA x), x6] [] σ Q) : WA G d k n mX6_reckonLoaf 24 [Va 625, Va a, Vi (l : Int), Vi (a0 : Int), x4, x5, x6] [] σ Q := by
  have ha : sk σ a = (10, 1496) := by
    rcases ha6 with e | e
    · rw [e]; exact hS.k626
    · rw [e]; exact hS.k627
  have hal := (List.getElem?_eq_some_iff.mp hx).1
  have hcl := hc.1
  have h26 : hI σ a (26 + l) = (c.length : Int) := by rw [(hr.2.1 l hl).1, hcS]
  have hord := (hr.2.1 l hl).2 a0 x (by rw [hcS]; exact hx)
  refine ar_iload_n 25 rfl d_X6_reckonLoaf_24 rfl ?_
  refine ar_aload_n 26 rfl d_X6_reckonLoaf_25 rfl ?_
  refine ar_bipush 28 rfl d_X6_reckonLoaf_26 rfl ?_
  refine ar_iload_n 29 rfl d_X6_reckonLoaf_28 rfl ?_
  refine ar_iadd 30 rfl d_X6_reckonLoaf_29 ?_
  refine ar_top (y := ((26 + l : Nat) : Int)) (by omega) ?_
  refine ar_ilv (y := (c.length : Int)) 31 rfl d_X6_reckonLoaf_30 (by assumption) (by omega) (by rw [Int.toNat_natCast]; exact h26) ?_
  refine ar_icmp_ge 222 34 rfl rfl d_X6_reckonLoaf_31 (by omega) (by omega) (fun h => by omega) (fun g31 => ?_)
  refine ar_aload_n 35 rfl d_X6_reckonLoaf_34 rfl ?_
  refine ar_bipush 37 rfl d_X6_reckonLoaf_35 rfl ?_
  refine ar_bipush 39 rfl d_X6_reckonLoaf_37 rfl ?_
  refine ar_iload_n 40 rfl d_X6_reckonLoaf_39 rfl ?_
  refine ar_imul 41 rfl d_X6_reckonLoaf_40 ?_
  refine ar_iadd 42 rfl d_X6_reckonLoaf_41 ?_
  refine ar_iload_n 43 rfl d_X6_reckonLoaf_42 rfl ?_
  refine ar_iadd 44 rfl d_X6_reckonLoaf_43 ?_
  refine ar_top (y := ((32 + 64 * l + a0 : Nat) : Int)) (by omega) ?_
  refine ar_ilv (y := (oK x)) 45 rfl d_X6_reckonLoaf_44 (by assumption) (by omega) (by rw [Int.toNat_natCast]; exact hord.1) ?_
  refine ar_ist_4 47 rfl d_X6_reckonLoaf_45 rfl (by intro _ h; cases h) ?_
  refine ar_aload_n 48 rfl d_X6_reckonLoaf_47 rfl ?_
  refine ar_sipush 51 rfl d_X6_reckonLoaf_48 rfl ?_
  refine ar_bipush 53 rfl d_X6_reckonLoaf_51 rfl ?_
  refine ar_iload_n 54 rfl d_X6_reckonLoaf_53 rfl ?_
  refine ar_imul 55 rfl d_X6_reckonLoaf_54 ?_
  refine ar_iadd 56 rfl d_X6_reckonLoaf_55 ?_
  refine ar_iload_n 57 rfl d_X6_reckonLoaf_56 rfl ?_
  refine ar_iadd 58 rfl d_X6_reckonLoaf_57 ?_
  refine ar_top (y := ((416 + 64 * l + a0 : Nat) : Int)) (by omega) ?_
  refine ar_ilv (y := (oA x)) 59 rfl d_X6_reckonLoaf_58 (by assumption) (by omega) (by rw [Int.toNat_natCast]; exact hord.2) ?_
  refine ar_ist_5 61 rfl d_X6_reckonLoaf_59 rfl (by intro _ h; cases h) ?_
  refine ar_inc_3 (y := ((a0 + 1 : Nat) : Int)) 64 rfl d_X6_reckonLoaf_61 rfl (by intro _ h; cases h) (by omega) ?_
  exact hk
set_option maxHeartbeats 8000000 in
theorem sp_X6_reckonLoaf {a l : Nat} {S : SS} {σ0 : Sg} (ha6 : a = 626 ∨ a = 627) (hl : l < 6) (hw : WFS S) (hh : HtS S) (hS : Sh6 σ0) (hr : Rs (hI σ0 a) S) (hlow : ∀ j, j < l → hI σ0 650 j = vF S j ∧ hI σ0 651 j = ((sF S j : Nat) : Int)) (hdp : 2 ≤ d)
    (hQ : ∀ σ', FrK l σ0 σ' → hI σ' 650 l = vF S l → hI σ' 651 l = ((sF S l : Nat) : Int) → Q none σ') : WA G d k n mX6_reckonLoaf 0 [Va 625, Va a, Vi (l : Int), Vu, Vu, Vu, Vu] [] σ0 Q := by
  have hvf := vF_eq hw hl
  have hb := hw.bd
  have hc := hw.2.2.2.2.2.2.2.2 l hl
  have hrec : ∀ σ : Sg, FrK l σ0 σ → Sh6 σ ∧ Rs (hI σ a) S := fun σ hf => ⟨hS.e hf.1, by rw [hf.2.1 a (by omega) (by omega) (by omega) (by omega)]; exact hr⟩
  have hlowf : ∀ σ : Sg, FrK l σ0 σ → ∀ j, j < l → hI σ 650 j = vF S j ∧ hI σ 651 j = ((sF S j : Nat) : Int) := fun σ hf j hj => by rw [hf.2.2 650 j (by omega) (by omega), hf.2.2 651 j (by omega) (by omega)]; exact hlow j hj
  generalize hcS : S.2.2 l = c at hc
  have loop : c ≠ [] → ∀ hs : Nat → Nat, HtC c hs → ∀ (r a0 : Nat) (p : List Int) (dd : List (Int × Int)) (nn : Int) (t u : Nat) (σ : Sg) (x4 x5 x6 : AV), c.length - a0 = r → a0 ≤ c.length → hs a0 = p.length → c.length ≤ u + a0 → (∀ x ∈ p, 0 ≤ x ∧ x < 100) → t < 4096 → Rk σ0 l t p σ → runG (lkF S.1 (vF S) (sF S)) c u a0 p dd nn t = fRn S l → WA G d k n mX6_reckonLoaf 24 [Va 625, Va a, Vi (l : Int), Vi (a0 : Int), x4, x5, x6] [] σ Q := by
    intro hne hs hht r
    rw [hcS, if_neg hne, if_neg hne] at hvf
    induction r using Nat.strongRecOn with
    | ind r ih =>
    intro a0 p dd nn t u σ x4 x5 x6 hr9 hal hsp hu hpp ht hk9 hrun
    obtain ⟨hS, hr⟩ := hrec σ hk9.1
    have hlo := hlowf σ hk9.1
    have hq5 := hk9.2.1
    have hq6 := hk9.2.2.1
    have hq7 := hk9.2.2.2.1
    have ha : sk σ a = (10, 1496) := by
      rcases ha6 with e | e
      · rw [e]; exact hS.k626
      · rw [e]; exact hS.k627
    have k625 := hS.k625
    have r31 := hS.r31
    have k650 := hS.k650
    have r32 := hS.r32
    have k651 := hS.k651
    have r24 := hS.r24
    have k645 := hS.k645
    rcases Nat.lt_or_ge a0 c.length with hlt | hge
    · obtain ⟨x, hx⟩ : ∃ x, c[a0]? = some x := ⟨_, List.getElem?_eq_getElem hlt⟩
      have hxm := List.mem_of_getElem? hx
      have hxc := hc.2 x hxm
      have hxh := hht.2.2.2 a0 x hx
      have hs38 := hht.2.2.1 a0 (by omega)
      obtain ⟨hok, hok7⟩ := oK_b hc hxm
      obtain ⟨u, rfl⟩ : ∃ u', u = u' + 1 := ⟨u - 1, by omega⟩
      refine rk_pre ha6 hl hcS hc hS hr hx ?_
      by_cases o6 : x.1 = 6
      · have eK : oK x = 7 := hok7.mpr o6
        have eA : oA x = ((x.2.toNat : Nat) : Int) := by unfold oA; rw [if_neg (by omega)]; omega
        rw [eK, eA]
        have hx6 := hxh.2.2.2 o6
        rw [runG_skip hx o6 hx6.1] at hrun
        refine ar_iload 66 rfl d_X6_reckonLoaf_64 rfl ?_
        refine ar_bipush 68 rfl d_X6_reckonLoaf_66 rfl ?_
        refine ar_icmp_eq 86 71 rfl rfl d_X6_reckonLoaf_68 (by omega) (by omega) (fun g68 => ?_) (fun h => absurd rfl h)
        refine ar_iload 88 rfl d_X6_reckonLoaf_86 rfl ?_
        refine ar_ist_3 89 rfl d_X6_reckonLoaf_88 rfl (by intro _ h; cases h) ?_
        refine ar_goto 219 rfl d_X6_reckonLoaf_89 ?_
        refine ar_goto 24 rfl d_X6_reckonLoaf_219 ?_
        refine ih _ (by omega) (x.2.toNat) (p) dd (nn) (t) u _ _ _ _ rfl (by omega) (by rw [hx6.2.2]; exact hsp) (by omega) hpp ht hk9 hrun
      · have eK7 : oK x ≠ 7 := fun h => o6 (hok7.mp h)
        by_cases o5 : x.1 = 5
        · have eK : oK x = 6 := by unfold oK; rw [if_neg (by omega)]; omega
          have eA : oA x = ((x.2.toNat : Nat) : Int) := by unfold oA; rw [if_neg (by omega)]; omega
          rw [eK, eA]
          have hx5 := hxh.2.2.1 o5
          obtain ⟨y, q, rfl⟩ : ∃ y q, p = y :: q := by
            cases p with
            | nil => simp at hsp; omega
            | cons y q => exact ⟨y, q, rfl⟩
          have hlq : (y :: q).length = q.length + 1 := rfl
          have hy := hpp y List.mem_cons_self
          have hpq : ∀ z ∈ q, 0 ≤ z ∧ z < 100 := fun z hz => hpp z (List.mem_cons_of_mem _ hz)
          rw [runG_cho hx o5 hx5.2.2.1] at hrun
          obtain ⟨p1, p2, p3⟩ := hk9.pop
          refine ar_iload 66 rfl d_X6_reckonLoaf_64 rfl ?_
          refine ar_bipush 68 rfl d_X6_reckonLoaf_66 rfl ?_
          refine ar_icmp_eq 86 71 rfl rfl d_X6_reckonLoaf_68 (by omega) (by omega) (fun h => by omega) (fun g68 => ?_)
          refine ar_iload 73 rfl d_X6_reckonLoaf_71 rfl ?_
          refine ar_bipush 75 rfl d_X6_reckonLoaf_73 rfl ?_
          refine ar_icmp_ne 92 78 rfl rfl d_X6_reckonLoaf_75 (by omega) (by omega) (fun h => absurd rfl h) (fun g75 => ?_)
          refine ar_aload_n 79 rfl d_X6_reckonLoaf_78 rfl ?_
          refine ar_iload_n 80 rfl d_X6_reckonLoaf_79 rfl ?_
          refine ar_callV0 (M' := mX6_pop) (As := [_]) (ls' := [Va _, Vi _]) 83 rfl d_X6_reckonLoaf_80 ml_X6_189 mt_X6_pop (by assumption) rfl (Nat.le_of_ble_eq_true rfl) rfl (Nat.le_of_ble_eq_true rfl) (by omega) ?_
          refine sp_X6_pop hS hl p1 (by omega) p2 ?_
          refine ar_if_ne 92 86 rfl rfl d_X6_reckonLoaf_83 (by omega) (fun g83 => ?_) (fun g83 => ?_)
          · rw [if_neg g83] at hrun
            refine ar_iload 94 rfl d_X6_reckonLoaf_92 rfl ?_
            refine ar_iconst 95 rfl d_X6_reckonLoaf_94 ?_
            refine ar_icmp_ne 108 98 rfl rfl d_X6_reckonLoaf_95 (by omega) (by omega) (fun g95 => ?_) (fun h => by omega)
            refine ar_iload 110 rfl d_X6_reckonLoaf_108 rfl ?_
            refine ar_if_eq 119 113 rfl rfl d_X6_reckonLoaf_110 (by omega) (fun h => by omega) (fun g110 => ?_)
            refine ar_iload 115 rfl d_X6_reckonLoaf_113 rfl ?_
            refine ar_iconst 116 rfl d_X6_reckonLoaf_115 ?_
            refine ar_icmp_ne 188 119 rfl rfl d_X6_reckonLoaf_116 (by omega) (by omega) (fun g116 => ?_) (fun h => by omega)
            refine ar_iload 190 rfl d_X6_reckonLoaf_188 rfl ?_
            refine ar_bipush 192 rfl d_X6_reckonLoaf_190 rfl ?_
            refine ar_icmp_eq 219 195 rfl rfl d_X6_reckonLoaf_192 (by omega) (by omega) (fun g192 => ?_) (fun h => absurd rfl h)
            refine ar_goto 24 rfl d_X6_reckonLoaf_219 ?_
            refine ih _ (by omega) (a0 + 1) (q) dd (nn + 1) (t) u _ _ _ _ rfl (by omega) (by omega) (by omega) hpq ht p3 hrun
          · rw [if_pos g83] at hrun
            refine ar_iload 88 rfl d_X6_reckonLoaf_86 rfl ?_
            refine ar_ist_3 89 rfl d_X6_reckonLoaf_88 rfl (by intro _ h; cases h) ?_
            refine ar_goto 219 rfl d_X6_reckonLoaf_89 ?_
            refine ar_goto 24 rfl d_X6_reckonLoaf_219 ?_
            refine ih _ (by omega) (x.2.toNat) (q) dd (nn + 1) (t) u _ _ _ _ rfl (by omega) (by omega) (by omega) hpq ht p3 hrun
        · by_cases o1 : x.1 = 1
          · have eK : oK x = 2 := by unfold oK; rw [if_neg (by omega)]; omega
            have eA : oA x = x.2 := by unfold oA; rw [if_neg (by omega)]
            rw [eK, eA]
            have hx1 := hxh.1 (by omega)
            have hv1 := hxc.2.2.2.1 o1
            rw [runG_num hx o1 hv1.2 (by omega)] at hrun
            refine ar_iload 66 rfl d_X6_reckonLoaf_64 rfl ?_
            refine ar_bipush 68 rfl d_X6_reckonLoaf_66 rfl ?_
            refine ar_icmp_eq 86 71 rfl rfl d_X6_reckonLoaf_68 (by omega) (by omega) (fun h => by omega) (fun g68 => ?_)
            refine ar_iload 73 rfl d_X6_reckonLoaf_71 rfl ?_
            refine ar_bipush 75 rfl d_X6_reckonLoaf_73 rfl ?_
            refine ar_icmp_ne 92 78 rfl rfl d_X6_reckonLoaf_75 (by omega) (by omega) (fun g75 => ?_) (fun h => by omega)
            refine ar_iload 94 rfl d_X6_reckonLoaf_92 rfl ?_
            refine ar_iconst 95 rfl d_X6_reckonLoaf_94 ?_
            refine ar_icmp_ne 108 98 rfl rfl d_X6_reckonLoaf_95 (by omega) (by omega) (fun h => absurd rfl h) (fun g95 => ?_)
            refine ar_aload_n 99 rfl d_X6_reckonLoaf_98 rfl ?_
            refine ar_iload_n 100 rfl d_X6_reckonLoaf_99 rfl ?_
            refine ar_iload 102 rfl d_X6_reckonLoaf_100 rfl ?_
            refine ar_callV0 (M' := mX6_push) (As := [_, _]) (ls' := [Va _, Vi _, Vi _]) 105 rfl d_X6_reckonLoaf_102 ml_X6_186 mt_X6_push (by assumption) rfl (Nat.le_of_ble_eq_true rfl) rfl (Nat.le_of_ble_eq_true rfl) (by omega) ?_
            refine sp_X6_push hS hl hq7 (by omega) ?_
            refine ar_goto 219 rfl d_X6_reckonLoaf_105 ?_
            refine ar_goto 24 rfl d_X6_reckonLoaf_219 ?_
            have hpq : ∀ z ∈ x.2 :: p, 0 ≤ z ∧ z < 100 := fun z hz => by
              rcases List.mem_cons.mp hz with e | e
              · rw [e]; exact hv1
              · exact hpp z e
            have hlq : (x.2 :: p).length = p.length + 1 := rfl
            refine ih _ (by omega) (a0 + 1) (x.2 :: p) dd (nn + 1) (t) u _ _ _ _ rfl (by omega) (by omega) (by omega) hpq ht hk9.push hrun
          · by_cases o0 : x.1 = 0
            · have hx1 := hxh.1 (by omega)
              have hVK := hxc.2.2.1 o0
              rw [runG_look hx o0 (by omega)] at hrun
              have hvb := vlF_b hw (Nat.le_of_lt hl) hVK
              by_cases ok : x.2 < 20
              · have eK : oK x = 0 := by unfold oK; rw [if_pos o0, if_pos ok]
                obtain ⟨q, hq⟩ : ∃ q : Nat, x.2 = (q : Int) := ⟨x.2.toNat, by omega⟩
                have hq12 : q < 12 := by rcases hVK with e | e <;> omega
                have eA : oA x = (q : Int) := by unfold oA; rw [if_neg (by omega)]; exact hq
                rw [eK, eA]
                have hlk : lkF S.1 (vF S) (sF S) x.2 dd t = (t ||| 2 ^ q, dd, sv S.1 (q : Int)) := by
                  unfold lkF vlF stF
                  rw [if_neg (by omega), if_neg (by omega), hq, Int.toNat_natCast]
                have hvs : vlF S.1 (vF S) x.2 = sv S.1 (q : Int) := by unfold vlF; rw [if_neg (by omega), hq]
                have hst : stF (sF S) x.2 = 2 ^ q := by unfold stF; rw [if_neg (by omega), hq, Int.toNat_natCast]
                rw [hvs, hst] at hvb
                rw [hlk] at hrun
                simp only [] at hrun
                have ht2 := or_lt ht hvb.2
                refine ar_iload 66 rfl d_X6_reckonLoaf_64 rfl ?_
                refine ar_bipush 68 rfl d_X6_reckonLoaf_66 rfl ?_
                refine ar_icmp_eq 86 71 rfl rfl d_X6_reckonLoaf_68 (by omega) (by omega) (fun h => by omega) (fun g68 => ?_)
                refine ar_iload 73 rfl d_X6_reckonLoaf_71 rfl ?_
                refine ar_bipush 75 rfl d_X6_reckonLoaf_73 rfl ?_
                refine ar_icmp_ne 92 78 rfl rfl d_X6_reckonLoaf_75 (by omega) (by omega) (fun g75 => ?_) (fun h => by omega)
                refine ar_iload 94 rfl d_X6_reckonLoaf_92 rfl ?_
                refine ar_iconst 95 rfl d_X6_reckonLoaf_94 ?_
                refine ar_icmp_ne 108 98 rfl rfl d_X6_reckonLoaf_95 (by omega) (by omega) (fun g95 => ?_) (fun h => by omega)
                refine ar_iload 110 rfl d_X6_reckonLoaf_108 rfl ?_
                refine ar_if_eq 119 113 rfl rfl d_X6_reckonLoaf_110 (by omega) (fun g110 => ?_) (fun h => absurd rfl h)
                refine ar_aload_n 120 rfl d_X6_reckonLoaf_119 rfl ?_
                refine ar_getA 123 rfl d_X6_reckonLoaf_120 fl_X6_86 rfl (by assumption) (by assumption) ?_
                refine ar_iload_n 124 rfl d_X6_reckonLoaf_123 rfl ?_
                refine ar_dup2 125 rfl d_X6_reckonLoaf_124 (fun _ => ⟨rfl, rfl⟩) ?_
                refine ar_ilv (y := (t : Int)) 126 rfl d_X6_reckonLoaf_125 (by assumption) (by omega) (by rw [Int.toNat_natCast]; exact hq6) ?_
                refine ar_iload 128 rfl d_X6_reckonLoaf_126 rfl ?_
                refine ar_if_ne 138 131 rfl rfl d_X6_reckonLoaf_128 (by omega) (fun h => absurd rfl h) (fun g128 => ?_)
                refine ar_iconst 132 rfl d_X6_reckonLoaf_131 ?_
                refine ar_iload 134 rfl d_X6_reckonLoaf_132 rfl ?_
                refine ar_ishl 135 rfl d_X6_reckonLoaf_134 ?_
                refine ar_top (y := ((2 ^ q : Nat) : Int)) (iSl_1 q (by omega)) ?_
                refine ar_goto 145 rfl d_X6_reckonLoaf_135 ?_
                refine ar_ior 146 rfl d_X6_reckonLoaf_145 ?_
                refine ar_top (y := ((t ||| 2 ^ q : Nat) : Int)) (iOr_n (by omega) (by omega)) ?_
                refine ar_iasN l 147 rfl d_X6_reckonLoaf_146 (by assumption) (by omega) (by omega) ?_
                have hk2 := hk9.or (t ||| 2 ^ q)
                have hr2 := (hrec _ hk2.1).2
                have hS2 := (hrec _ hk2.1).1
                have ha2 : sk (wI σ 651 l ((t ||| 2 ^ q : Nat) : Int)) a = (10, 1496) := ha
                have k625 := hS2.k625
                refine ar_iload 149 rfl d_X6_reckonLoaf_147 rfl ?_
                refine ar_if_ne 161 152 rfl rfl d_X6_reckonLoaf_149 (by omega) (fun h => absurd rfl h) (fun g149 => ?_)
                refine ar_aload_n 153 rfl d_X6_reckonLoaf_152 rfl ?_
                refine ar_iload 155 rfl d_X6_reckonLoaf_153 rfl ?_
                refine ar_callS0 (M' := mX6_valueOfShelf) (As := [_, _]) (ls' := [Vr _, Vi _]) 158 rfl d_X6_reckonLoaf_155 ml_X6_172 mt_X6_valueOfShelf rfl (Nat.le_of_ble_eq_true rfl) rfl (Nat.le_of_ble_eq_true rfl) (by omega) ?_
                refine sp_X6_valueOfShelf ha2 (by omega) hq12 (hr2.1 _ (by omega)) (hr2.1 _ (by omega)) (hw.2.2.2.1 q hq12) ?_
                refine ar_goto 168 rfl d_X6_reckonLoaf_158 ?_
                refine ar_ist_6 170 rfl d_X6_reckonLoaf_168 rfl (by intro _ h; cases h) ?_
                refine ar_iload 172 rfl d_X6_reckonLoaf_170 rfl ?_
                refine ar_bipush 174 rfl d_X6_reckonLoaf_172 rfl ?_
                refine ar_icmp_ne 178 177 rfl rfl d_X6_reckonLoaf_174 (by first | omega | (constructor <;> omega)) (by first | omega | (constructor <;> omega)) (fun g174 => ?_) (fun g174 => ?_)
                · rw [if_neg g174] at hrun
                  refine ar_aload_n 179 rfl d_X6_reckonLoaf_178 rfl ?_
                  refine ar_iload_n 180 rfl d_X6_reckonLoaf_179 rfl ?_
                  refine ar_iload 182 rfl d_X6_reckonLoaf_180 rfl ?_
                  refine ar_callV0 (M' := mX6_push) (As := [_, _]) (ls' := [Va _, Vi _, Vi _]) 185 rfl d_X6_reckonLoaf_182 ml_X6_186 mt_X6_push (by assumption) rfl (Nat.le_of_ble_eq_true rfl) rfl (Nat.le_of_ble_eq_true rfl) (by omega) ?_
                  refine sp_X6_push hS2 hl hk2.2.2.2.1 (by omega) ?_
                  refine ar_goto 219 rfl d_X6_reckonLoaf_185 ?_
                  refine ar_goto 24 rfl d_X6_reckonLoaf_219 ?_
                  have hpq : ∀ z ∈ sv S.1 (q : Int) :: p, 0 ≤ z ∧ z < 100 := fun z hz => by
                    rcases List.mem_cons.mp hz with e | e
                    · rw [e]; omega
                    · exact hpp z e
                  have hlq : (sv S.1 (q : Int) :: p).length = p.length + 1 := rfl
                  refine ih _ (by omega) (a0 + 1) (sv S.1 (q : Int) :: p) dd (nn + 1) (t ||| 2 ^ q) u _ _ _ _ rfl (by omega) (by omega) (by omega) hpq ht2 hk2.push hrun
                · rw [if_pos g174] at hrun
                  refine WA.ret none ⟨d_X6_reckonLoaf_177, rfl, rfl⟩ ?_
                  refine hQ _ hk2.1 ?_ ?_
                  · rw [hvf.1, ← hrun]
                    exact hk2.2.1
                  · rw [hvf.2, ← hrun]
                    exact hk2.2.2.1
              · have eK : oK x = 1 := by unfold oK; rw [if_pos o0, if_neg ok]
                obtain ⟨q, hq⟩ : ∃ q : Nat, x.2 = 20 + (q : Int) := ⟨(x.2 - 20).toNat, by omega⟩
                have hql : q < l := by rcases hVK with e | e <;> omega
                have eA : oA x = (q : Int) := by unfold oA; rw [if_pos ⟨o0, by omega⟩, hq]; omega
                rw [eK, eA]
                have eq20 : (20 + (q : Int) - 20).toNat = q := by omega
                have hlk : lkF S.1 (vF S) (sF S) x.2 dd t = (t ||| sF S q, dd, vF S q) := by
                  unfold lkF vlF stF
                  rw [if_pos (by omega), if_pos (by omega), hq, eq20]
                have hvs : vlF S.1 (vF S) x.2 = vF S q := by unfold vlF; rw [if_pos (by omega), hq, eq20]
                have hst : stF (sF S) x.2 = sF S q := by unfold stF; rw [if_pos (by omega), hq, eq20]
                rw [hvs, hst] at hvb
                rw [hlk] at hrun
                simp only [] at hrun
                have ht2 := or_lt ht hvb.2
                have hlq0 := hlo q hql
                refine ar_iload 66 rfl d_X6_reckonLoaf_64 rfl ?_
                refine ar_bipush 68 rfl d_X6_reckonLoaf_66 rfl ?_
                refine ar_icmp_eq 86 71 rfl rfl d_X6_reckonLoaf_68 (by omega) (by omega) (fun h => by omega) (fun g68 => ?_)
                refine ar_iload 73 rfl d_X6_reckonLoaf_71 rfl ?_
                refine ar_bipush 75 rfl d_X6_reckonLoaf_73 rfl ?_
                refine ar_icmp_ne 92 78 rfl rfl d_X6_reckonLoaf_75 (by omega) (by omega) (fun g75 => ?_) (fun h => by omega)
                refine ar_iload 94 rfl d_X6_reckonLoaf_92 rfl ?_
                refine ar_iconst 95 rfl d_X6_reckonLoaf_94 ?_
                refine ar_icmp_ne 108 98 rfl rfl d_X6_reckonLoaf_95 (by omega) (by omega) (fun g95 => ?_) (fun h => by omega)
                refine ar_iload 110 rfl d_X6_reckonLoaf_108 rfl ?_
                refine ar_if_eq 119 113 rfl rfl d_X6_reckonLoaf_110 (by omega) (fun h => by omega) (fun g110 => ?_)
                refine ar_iload 115 rfl d_X6_reckonLoaf_113 rfl ?_
                refine ar_iconst 116 rfl d_X6_reckonLoaf_115 ?_
                refine ar_icmp_ne 188 119 rfl rfl d_X6_reckonLoaf_116 (by omega) (by omega) (fun h => absurd rfl h) (fun g116 => ?_)
                refine ar_aload_n 120 rfl d_X6_reckonLoaf_119 rfl ?_
                refine ar_getA 123 rfl d_X6_reckonLoaf_120 fl_X6_86 rfl (by assumption) (by assumption) ?_
                refine ar_iload_n 124 rfl d_X6_reckonLoaf_123 rfl ?_
                refine ar_dup2 125 rfl d_X6_reckonLoaf_124 (fun _ => ⟨rfl, rfl⟩) ?_
                refine ar_ilv (y := (t : Int)) 126 rfl d_X6_reckonLoaf_125 (by assumption) (by omega) (by rw [Int.toNat_natCast]; exact hq6) ?_
                refine ar_iload 128 rfl d_X6_reckonLoaf_126 rfl ?_
                refine ar_if_ne 138 131 rfl rfl d_X6_reckonLoaf_128 (by omega) (fun g128 => ?_) (fun h => by omega)
                refine ar_aload_n 139 rfl d_X6_reckonLoaf_138 rfl ?_
                refine ar_getA 142 rfl d_X6_reckonLoaf_139 fl_X6_86 rfl (by assumption) (by assumption) ?_
                refine ar_iload 144 rfl d_X6_reckonLoaf_142 rfl ?_
                refine ar_ilv (y := ((sF S q : Nat) : Int)) 145 rfl d_X6_reckonLoaf_144 (by assumption) (by omega) (by rw [Int.toNat_natCast]; exact hlq0.2) ?_
                refine ar_ior 146 rfl d_X6_reckonLoaf_145 ?_
                refine ar_top (y := ((t ||| sF S q : Nat) : Int)) (iOr_n (by omega) (by omega)) ?_
                refine ar_iasN l 147 rfl d_X6_reckonLoaf_146 (by assumption) (by omega) (by omega) ?_
                have hk2 := hk9.or (t ||| sF S q)
                have hS2 := (hrec _ hk2.1).1
                have k625 := hS2.k625
                refine ar_iload 149 rfl d_X6_reckonLoaf_147 rfl ?_
                refine ar_if_ne 161 152 rfl rfl d_X6_reckonLoaf_149 (by omega) (fun g149 => ?_) (fun h => by omega)
                refine ar_aload_n 162 rfl d_X6_reckonLoaf_161 rfl ?_
                refine ar_getA 165 rfl d_X6_reckonLoaf_162 fl_X6_83 rfl (by assumption) (by assumption) ?_
                refine ar_iload 167 rfl d_X6_reckonLoaf_165 rfl ?_
                refine ar_ilv (y := (vF S q)) 168 rfl d_X6_reckonLoaf_167 (by assumption) (by omega) (by rw [Int.toNat_natCast, hI_off (by omega)]; exact hlq0.1) ?_
                refine ar_ist_6 170 rfl d_X6_reckonLoaf_168 rfl (by intro _ h; cases h) ?_
                refine ar_iload 172 rfl d_X6_reckonLoaf_170 rfl ?_
                refine ar_bipush 174 rfl d_X6_reckonLoaf_172 rfl ?_
                refine ar_icmp_ne 178 177 rfl rfl d_X6_reckonLoaf_174 (by first | omega | (constructor <;> omega)) (by first | omega | (constructor <;> omega)) (fun g174 => ?_) (fun g174 => ?_)
                · rw [if_neg g174] at hrun
                  refine ar_aload_n 179 rfl d_X6_reckonLoaf_178 rfl ?_
                  refine ar_iload_n 180 rfl d_X6_reckonLoaf_179 rfl ?_
                  refine ar_iload 182 rfl d_X6_reckonLoaf_180 rfl ?_
                  refine ar_callV0 (M' := mX6_push) (As := [_, _]) (ls' := [Va _, Vi _, Vi _]) 185 rfl d_X6_reckonLoaf_182 ml_X6_186 mt_X6_push (by assumption) rfl (Nat.le_of_ble_eq_true rfl) rfl (Nat.le_of_ble_eq_true rfl) (by omega) ?_
                  refine sp_X6_push hS2 hl hk2.2.2.2.1 (by omega) ?_
                  refine ar_goto 219 rfl d_X6_reckonLoaf_185 ?_
                  refine ar_goto 24 rfl d_X6_reckonLoaf_219 ?_
                  have hpq : ∀ z ∈ vF S q :: p, 0 ≤ z ∧ z < 100 := fun z hz => by
                    rcases List.mem_cons.mp hz with e | e
                    · rw [e]; omega
                    · exact hpp z e
                  have hlq : (vF S q :: p).length = p.length + 1 := rfl
                  refine ih _ (by omega) (a0 + 1) (vF S q :: p) dd (nn + 1) (t ||| sF S q) u _ _ _ _ rfl (by omega) (by omega) (by omega) hpq ht2 hk2.push hrun
                · rw [if_pos g174] at hrun
                  refine WA.ret none ⟨d_X6_reckonLoaf_177, rfl, rfl⟩ ?_
                  refine hQ _ hk2.1 ?_ ?_
                  · rw [hvf.1, ← hrun]
                    exact hk2.2.1
                  · rw [hvf.2, ← hrun]
                    exact hk2.2.2.1
            · have hop : x.1 = 2 ∨ x.1 = 3 ∨ x.1 = 4 := by omega
              have eK : oK x = x.1 + 1 := by unfold oK; rw [if_neg o0]
              rw [eK]
              have hx2 := hxh.2.1 (by omega) (by omega)
              obtain ⟨y, w, q, rfl⟩ : ∃ y w q, p = y :: w :: q := by
                rcases p with _ | ⟨y, _ | ⟨w, q⟩⟩
                · simp at hsp; omega
                · simp at hsp; omega
                · exact ⟨y, w, q, rfl⟩
              have hlq : (y :: w :: q).length = q.length + 2 := rfl
              have hlq2 : (w :: q).length = q.length + 1 := rfl
              have hy := hpp y (by simp)
              have hw9 := hpp w (by simp)
              rw [runG_op hx (by omega)] at hrun
              have hjn := jn_r (w := x.1) hw9 hy
              obtain ⟨p1, p2, p3⟩ := hk9.pop
              obtain ⟨p4, p5, p6⟩ := p3.pop
              have hpq : ∀ z ∈ jn x.1 w y :: q, 0 ≤ z ∧ z < 100 := fun z hz => by
                rcases List.mem_cons.mp hz with e | e
                · rw [e]; exact hjn
                · exact hpp z (by simp [e])
              have hlq3 : (jn x.1 w y :: q).length = q.length + 1 := rfl
              refine ar_iload 66 rfl d_X6_reckonLoaf_64 rfl ?_
              refine ar_bipush 68 rfl d_X6_reckonLoaf_66 rfl ?_
              refine ar_icmp_eq 86 71 rfl rfl d_X6_reckonLoaf_68 (by omega) (by omega) (fun h => by omega) (fun g68 => ?_)
              refine ar_iload 73 rfl d_X6_reckonLoaf_71 rfl ?_
              refine ar_bipush 75 rfl d_X6_reckonLoaf_73 rfl ?_
              refine ar_icmp_ne 92 78 rfl rfl d_X6_reckonLoaf_75 (by omega) (by omega) (fun g75 => ?_) (fun h => by omega)
              refine ar_iload 94 rfl d_X6_reckonLoaf_92 rfl ?_
              refine ar_iconst 95 rfl d_X6_reckonLoaf_94 ?_
              refine ar_icmp_ne 108 98 rfl rfl d_X6_reckonLoaf_95 (by omega) (by omega) (fun g95 => ?_) (fun h => by omega)
              refine ar_iload 110 rfl d_X6_reckonLoaf_108 rfl ?_
              refine ar_if_eq 119 113 rfl rfl d_X6_reckonLoaf_110 (by omega) (fun h => by omega) (fun g110 => ?_)
              refine ar_iload 115 rfl d_X6_reckonLoaf_113 rfl ?_
              refine ar_iconst 116 rfl d_X6_reckonLoaf_115 ?_
              refine ar_icmp_ne 188 119 rfl rfl d_X6_reckonLoaf_116 (by omega) (by omega) (fun g116 => ?_) (fun h => by omega)
              refine ar_iload 190 rfl d_X6_reckonLoaf_188 rfl ?_
              refine ar_bipush 192 rfl d_X6_reckonLoaf_190 rfl ?_
              refine ar_icmp_eq 219 195 rfl rfl d_X6_reckonLoaf_192 (by omega) (by omega) (fun h => by omega) (fun g192 => ?_)
              refine ar_aload_n 196 rfl d_X6_reckonLoaf_195 rfl ?_
              refine ar_iload_n 197 rfl d_X6_reckonLoaf_196 rfl ?_
              refine ar_callV0 (M' := mX6_pop) (As := [_]) (ls' := [Va _, Vi _]) 200 rfl d_X6_reckonLoaf_197 ml_X6_189 mt_X6_pop (by assumption) rfl (Nat.le_of_ble_eq_true rfl) rfl (Nat.le_of_ble_eq_true rfl) (by omega) ?_
              refine sp_X6_pop hS hl p1 (by omega) p2 ?_
              refine ar_ist_6 202 rfl d_X6_reckonLoaf_200 rfl (by intro _ h; cases h) ?_
              refine ar_aload_n 203 rfl d_X6_reckonLoaf_202 rfl ?_
              refine ar_iload_n 204 rfl d_X6_reckonLoaf_203 rfl ?_
              refine ar_iload 206 rfl d_X6_reckonLoaf_204 rfl ?_
              refine ar_aload_n 207 rfl d_X6_reckonLoaf_206 rfl ?_
              refine ar_iload_n 208 rfl d_X6_reckonLoaf_207 rfl ?_
              refine ar_callV0 (M' := mX6_pop) (As := [_]) (ls' := [Va _, Vi _]) 211 rfl d_X6_reckonLoaf_208 ml_X6_189 mt_X6_pop (by assumption) rfl (Nat.le_of_ble_eq_true rfl) rfl (Nat.le_of_ble_eq_true rfl) (by omega) ?_
              refine sp_X6_pop (hS.e rfl) hl p4 (by omega) p5 ?_
              refine ar_iload 213 rfl d_X6_reckonLoaf_211 rfl ?_
              refine ar_callS0 (M' := mX6_reckon) (As := [_, _, _]) (ls' := [Vi _, Vi _, Vi _, Vu]) 216 rfl d_X6_reckonLoaf_213 ml_X6_200 mt_X6_reckon rfl (Nat.le_of_ble_eq_true rfl) rfl (Nat.le_of_ble_eq_true rfl) (by omega) ?_
              refine sp_X6_reckon hop ?_
              refine ar_callV0 (M' := mX6_push) (As := [_, _]) (ls' := [Va _, Vi _, Vi _]) 219 rfl d_X6_reckonLoaf_216 ml_X6_186 mt_X6_push (by assumption) rfl (Nat.le_of_ble_eq_true rfl) rfl (Nat.le_of_ble_eq_true rfl) (by omega) ?_
              refine sp_X6_push (hS.e rfl) hl p6.2.2.2.1 (by omega) ?_
              refine ar_goto 24 rfl d_X6_reckonLoaf_219 ?_
              refine ih _ (by omega) (a0 + 1) (jn x.1 w y :: q) dd (nn + 1) (t) u _ _ _ _ rfl (by omega) (by omega) (by omega) hpq ht p6.push hrun
    · have hae : a0 = c.length := by omega
      subst hae
      rw [runG_end] at hrun
      obtain ⟨v, rfl⟩ : ∃ v, p = [v] := by
        have h1 := hht.2.1
        rcases p with _ | ⟨y, _ | ⟨w, q⟩⟩
        · simp at hsp; omega
        · exact ⟨y, rfl⟩
        · simp at hsp; omega
      have h26 : hI σ a (26 + l) = (c.length : Int) := by rw [(hr.2.1 l hl).1, hcS]
      have hcl := hc.1
      have hc0 : 0 < c.length := List.length_pos_iff.mpr hne
      obtain ⟨p1, p2, p3⟩ := hk9.pop
      refine ar_iload_n 25 rfl d_X6_reckonLoaf_24 rfl ?_
      refine ar_aload_n 26 rfl d_X6_reckonLoaf_25 rfl ?_
      refine ar_bipush 28 rfl d_X6_reckonLoaf_26 rfl ?_
      refine ar_iload_n 29 rfl d_X6_reckonLoaf_28 rfl ?_
      refine ar_iadd 30 rfl d_X6_reckonLoaf_29 ?_
      refine ar_top (y := ((26 + l : Nat) : Int)) (by omega) ?_
      refine ar_ilv (y := (c.length : Int)) 31 rfl d_X6_reckonLoaf_30 (by assumption) (by omega) (by rw [Int.toNat_natCast]; exact h26) ?_
      refine ar_icmp_ge 222 34 rfl rfl d_X6_reckonLoaf_31 (by omega) (by omega) (fun g31 => ?_) (fun h => by omega)
      refine ar_aload_n 223 rfl d_X6_reckonLoaf_222 rfl ?_
      refine ar_getA 226 rfl d_X6_reckonLoaf_223 fl_X6_83 rfl (by assumption) (by assumption) ?_
      refine ar_iload_n 227 rfl d_X6_reckonLoaf_226 rfl ?_
      refine ar_aload_n 228 rfl d_X6_reckonLoaf_227 rfl ?_
      refine ar_bipush 230 rfl d_X6_reckonLoaf_228 rfl ?_
      refine ar_iload_n 231 rfl d_X6_reckonLoaf_230 rfl ?_
      refine ar_iadd 232 rfl d_X6_reckonLoaf_231 ?_
      refine ar_top (y := ((26 + l : Nat) : Int)) (by omega) ?_
      refine ar_ilv (y := (c.length : Int)) 233 rfl d_X6_reckonLoaf_232 (by assumption) (by omega) (by rw [Int.toNat_natCast]; exact h26) ?_
      refine ar_if_ne 241 236 rfl rfl d_X6_reckonLoaf_233 (by omega) (fun g233 => ?_) (fun h => by omega)
      refine ar_aload_n 242 rfl d_X6_reckonLoaf_241 rfl ?_
      refine ar_iload_n 243 rfl d_X6_reckonLoaf_242 rfl ?_
      refine ar_callV0 (M' := mX6_pop) (As := [_]) (ls' := [Va _, Vi _]) 246 rfl d_X6_reckonLoaf_243 ml_X6_189 mt_X6_pop (by assumption) rfl (Nat.le_of_ble_eq_true rfl) rfl (Nat.le_of_ble_eq_true rfl) (by omega) ?_
      refine sp_X6_pop (m := 0) hS hl p1 (by omega) p2 ?_
      refine ar_iasN l 247 rfl d_X6_reckonLoaf_246 (by assumption) (by omega) (by omega) ?_
      refine WA.ret none ⟨d_X6_reckonLoaf_247, rfl, rfl⟩ ?_
      refine hQ _ (p3.1.tr (FrK.w (by omega))) ?_ ?_
      · rw [hvf.1, ← hrun, hI_w, if_pos ⟨rfl, rfl⟩]
        rfl
      · rw [hvf.2, ← hrun, hI_off (by omega)]
        exact p3.2.2.1
  have k625 := hS.k625
  have r31 := hS.r31
  have k650 := hS.k650
  have r32 := hS.r32
  have k651 := hS.k651
  have r24 := hS.r24
  have k645 := hS.k645
  have hk0 : Rk σ0 l 0 [] (wI (wI (wI σ0 650 l 100) 651 l 0) 645 l 0) := by
    refine ⟨(FrK.w (by omega)).tr ((FrK.w (by omega)).tr (FrK.w (by omega))), ?_, ?_, ?_, fun i x h => (by simp at h)⟩
    · rw [hI_off (by omega), hI_off (by omega), hI_w, if_pos ⟨rfl, rfl⟩]
    · rw [hI_off (by omega), hI_w, if_pos ⟨rfl, rfl⟩]
      rfl
    · rw [hI_w, if_pos ⟨rfl, rfl⟩]
      rfl
  refine ar_aload_n 1 rfl d_X6_reckonLoaf_0 rfl ?_
  refine ar_getA 4 rfl d_X6_reckonLoaf_1 fl_X6_83 rfl (by assumption) (by assumption) ?_
  refine ar_iload_n 5 rfl d_X6_reckonLoaf_4 rfl ?_
  refine ar_bipush 7 rfl d_X6_reckonLoaf_5 rfl ?_
  refine ar_iasN l 8 rfl d_X6_reckonLoaf_7 (by assumption) (by omega) (by omega) ?_
  refine ar_aload_n 9 rfl d_X6_reckonLoaf_8 rfl ?_
  refine ar_getA 12 rfl d_X6_reckonLoaf_9 fl_X6_86 rfl (by assumption) (by assumption) ?_
  refine ar_iload_n 13 rfl d_X6_reckonLoaf_12 rfl ?_
  refine ar_iconst 14 rfl d_X6_reckonLoaf_13 ?_
  refine ar_iasN l 15 rfl d_X6_reckonLoaf_14 (by assumption) (by omega) (by omega) ?_
  refine ar_aload_n 16 rfl d_X6_reckonLoaf_15 rfl ?_
  refine ar_getA 19 rfl d_X6_reckonLoaf_16 fl_X6_68 rfl (by assumption) (by assumption) ?_
  refine ar_iload_n 20 rfl d_X6_reckonLoaf_19 rfl ?_
  refine ar_iconst 21 rfl d_X6_reckonLoaf_20 ?_
  refine ar_iasN l 22 rfl d_X6_reckonLoaf_21 (by assumption) (by omega) (by omega) ?_
  refine ar_iconst 23 rfl d_X6_reckonLoaf_22 ?_
  refine ar_ist_3 24 rfl d_X6_reckonLoaf_23 rfl (by intro _ h; cases h) ?_
  generalize wI (wI (wI σ0 650 l 100) 651 l 0) 645 l 0 = σ at hk0
  rcases hh l hl with e | ⟨hs, hht⟩
  · rw [hcS] at e
    rw [hcS, if_pos e, if_pos e] at hvf
    obtain ⟨hS, hr⟩ := hrec σ hk0.1
    have h26 : hI σ a (26 + l) = 0 := by rw [(hr.2.1 l hl).1, hcS, e]; rfl
    have k625 := hS.k625
    have r31 := hS.r31
    have k650 := hS.k650
    have ha : sk σ a = (10, 1496) := by
      rcases ha6 with e | e
      · rw [e]; exact hS.k626
      · rw [e]; exact hS.k627
    refine ar_iload_n 25 rfl d_X6_reckonLoaf_24 rfl ?_
    refine ar_aload_n 26 rfl d_X6_reckonLoaf_25 rfl ?_
    refine ar_bipush 28 rfl d_X6_reckonLoaf_26 rfl ?_
    refine ar_iload_n 29 rfl d_X6_reckonLoaf_28 rfl ?_
    refine ar_iadd 30 rfl d_X6_reckonLoaf_29 ?_
    refine ar_top (y := ((26 + l : Nat) : Int)) (by omega) ?_
    refine ar_ilv (y := (0 : Int)) 31 rfl d_X6_reckonLoaf_30 (by assumption) (by omega) (by rw [Int.toNat_natCast]; exact h26) ?_
    refine ar_icmp_ge 222 34 rfl rfl d_X6_reckonLoaf_31 (by omega) (by omega) (fun g31 => ?_) (fun h => absurd (Int.le_refl 0) h)
    refine ar_aload_n 223 rfl d_X6_reckonLoaf_222 rfl ?_
    refine ar_getA 226 rfl d_X6_reckonLoaf_223 fl_X6_83 rfl (by assumption) (by assumption) ?_
    refine ar_iload_n 227 rfl d_X6_reckonLoaf_226 rfl ?_
    refine ar_aload_n 228 rfl d_X6_reckonLoaf_227 rfl ?_
    refine ar_bipush 230 rfl d_X6_reckonLoaf_228 rfl ?_
    refine ar_iload_n 231 rfl d_X6_reckonLoaf_230 rfl ?_
    refine ar_iadd 232 rfl d_X6_reckonLoaf_231 ?_
    refine ar_top (y := ((26 + l : Nat) : Int)) (by omega) ?_
    refine ar_ilv (y := (0 : Int)) 233 rfl d_X6_reckonLoaf_232 (by assumption) (by omega) (by rw [Int.toNat_natCast]; exact h26) ?_
    refine ar_if_ne 241 236 rfl rfl d_X6_reckonLoaf_233 (by omega) (fun h => absurd rfl h) (fun g233 => ?_)
    refine ar_bipush 238 rfl d_X6_reckonLoaf_236 rfl ?_
    refine ar_goto 246 rfl d_X6_reckonLoaf_238 ?_
    refine ar_iasN l 247 rfl d_X6_reckonLoaf_246 (by assumption) (by omega) (by omega) ?_
    refine WA.ret none ⟨d_X6_reckonLoaf_247, rfl, rfl⟩ ?_
    refine hQ _ (hk0.1.tr (FrK.w (by omega))) ?_ ?_
    · rw [hvf.1, hI_w, if_pos ⟨rfl, rfl⟩]
    · rw [hvf.2, hI_off (by omega)]
      exact hk0.2.2.1
  · rw [hcS] at hht
    by_cases hne : c = []
    · rw [hne] at hht
      have h1 := hht.1
      have h2 := hht.2.1
      rw [List.length_nil] at h2
      omega
    · exact loop hne hs hht _ 0 [] [] 0 0 c.length σ _ _ _ rfl (by omega) hht.1 (by omega) (fun x hx => by cases hx) (by decide) hk0 (by rw [← hcS]; rfl)
theorem sp_X6_reckonAll {a : Nat} {S : SS} {σ : Sg} (ha6 : a = 626 ∨ a = 627) (hw : WFS S) (hh : HtS S) (hS : Sh6 σ) (hr : Rs (hI σ a) S) (hdp : 3 ≤ d)
    (hQ : ∀ σ', σ'.2 = σ.2 → (∀ b, b ≠ 644 → b ≠ 645 → b ≠ 650 → b ≠ 651 → hI σ' b = hI σ b) → (∀ l, l < 6 → hI σ' 650 l = vF S l ∧ hI σ' 651 l = ((sF S l : Nat) : Int)) → Q none σ') : WA G d k n mX6_reckonAll 0 [Va 625, Va a, Vu] [] σ Q := by
  have loop : ∀ (r i : Nat) (σi : Sg), 6 - i = r → i ≤ 6 → σi.2 = σ.2 → (∀ b, b ≠ 644 → b ≠ 645 → b ≠ 650 → b ≠ 651 → hI σi b = hI σ b) → (∀ l, l < i → hI σi 650 l = vF S l ∧ hI σi 651 l = ((sF S l : Nat) : Int)) → WA G d k n mX6_reckonAll 2 [Va 625, Va a, Vi (i : Int)] [] σi Q := by
    intro r
    induction r using Nat.strongRecOn with
    | ind r ih =>
    intro i σi hr9 hi q1 q2 q3
    have hSi := hS.e q1
    have k625 := hSi.k625
    refine ar_iload_n 3 rfl d_X6_reckonAll_2 rfl ?_
    refine ar_bipush 5 rfl d_X6_reckonAll_3 rfl ?_
    refine ar_icmp_ge 20 8 rfl rfl d_X6_reckonAll_5 (by omega) (by omega) (fun g5 => ?_) (fun g5 => ?_)
    · refine WA.ret none ⟨d_X6_reckonAll_20, rfl, rfl⟩ ?_
      exact hQ σi q1 q2 (fun l hl => q3 l (by omega))
    · refine ar_aload_n 9 rfl d_X6_reckonAll_8 rfl ?_
      refine ar_aload_n 10 rfl d_X6_reckonAll_9 rfl ?_
      refine ar_iload_n 11 rfl d_X6_reckonAll_10 rfl ?_
      refine ar_callV0 (M' := mX6_reckonLoaf) (As := [_, _]) (ls' := [Va _, Vr _, Vi _, Vu, Vu, Vu, Vu]) 14 rfl d_X6_reckonAll_11 ml_X6_251 mt_X6_reckonLoaf (by assumption) rfl (Nat.le_of_ble_eq_true rfl) rfl (Nat.le_of_ble_eq_true rfl) (by omega) ?_
      refine sp_X6_reckonLoaf ha6 (by omega) hw hh hSi (by rw [q2 a (by omega) (by omega) (by omega) (by omega)]; exact hr) q3 (by omega) (fun σ2 f1 f2 f3 => ?_)
      refine ar_inc_2 (y := ((i + 1 : Nat) : Int)) 17 rfl d_X6_reckonAll_14 rfl (by intro _ h; cases h) (by omega) ?_
      refine ar_goto 2 rfl d_X6_reckonAll_17 ?_
      refine ih (6 - (i + 1)) (by omega) (i + 1) σ2 rfl (by omega) (f1.1.trans q1) (fun b a1 a2 a3 a4 => (f1.2.1 b a1 a2 a3 a4).trans (q2 b a1 a2 a3 a4)) (fun l hl => ?_)
      by_cases e : l = i
      · rw [e]
        exact ⟨f2, f3⟩
      · rw [f1.2.2 650 l (by omega) e, f1.2.2 651 l (by omega) e]
        exact q3 l (by omega)
  refine ar_iconst 1 rfl d_X6_reckonAll_0 ?_
  refine ar_ist_2 2 rfl d_X6_reckonAll_1 rfl (by intro _ h; cases h) ?_
  exact loop _ 0 σ rfl (by omega) rfl (fun _ _ _ _ _ => rfl) (fun l hl => absurd hl (by omega))
end REF8
