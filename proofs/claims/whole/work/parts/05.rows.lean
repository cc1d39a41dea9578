section ARows
variable {G : GT} {d k n : Nat} {M : MM} {pc : Nat} {ls st : List AV} {σ : Sg} {Q : Option AV → Sg → Prop}
abbrev i32 (x : Int) : Prop := -2147483648 ≤ x ∧ x ≤ 2147483647
abbrev i64 (x : Int) : Prop := -9223372036854775808 ≤ x ∧ x ≤ 9223372036854775807
theorem o_I {x : Int} (h : i32 x) : (Int32.ofInt x).toInt = x := Int32.toInt_ofInt_of_le (by omega) (by omega)
theorem o_L {x : Int} (h : i64 x) : (Int64.ofInt x).toInt = x := Int64.toInt_ofInt_of_le (by omega) (by omega)
theorem o_lt {x y : Int} (hx : i32 x) (hy : i32 y) : Int32.ofInt x < Int32.ofInt y ↔ x < y := by rw [Int32.lt_iff_toInt_lt, o_I hx, o_I hy]
theorem o_le {x y : Int} (hx : i32 x) (hy : i32 y) : Int32.ofInt x ≤ Int32.ofInt y ↔ x ≤ y := by rw [Int32.le_iff_toInt_le, o_I hx, o_I hy]
theorem o_eq {x y : Int} (hx : i32 x) (hy : i32 y) : Int32.ofInt x = Int32.ofInt y ↔ x = y := by rw [← Int32.toInt_inj, o_I hx, o_I hy]
theorem o_z : (0 : Int32) = Int32.ofInt 0 := rfl
theorem o_nat {j : Int} (h : i32 j) : (Int32.ofInt j).toNatClampNeg = j.toNat := by rw [← Int32.toNat_toInt, o_I h]
theorem o_in {j : Int} {N : Nat} (h : 0 ≤ j ∧ j < N ∧ j ≤ 2147483647) : vp_in (Int32.ofInt j) N := by
  unfold vp_in
  rw [o_nat (by omega), o_z, o_lt (by omega) (by omega)]
  omega
theorem o_nneg {j : Int} (h : 0 ≤ j ∧ j ≤ 2147483647) : ¬ Int32.ofInt j < 0 := by
  rw [o_z, o_lt (by omega) (by omega)]
  omega

theorem ar_iconst {x : Int} (q : Nat) (hq : pc + 1 = q) (hd : decode (bc M) pc = .ok (.iconst x, 1)) 
    (kk : WA G d k n M q ls (Vi x :: st) σ Q) : WA G d k n M pc ls (st) σ Q := by
  subst hq
  intro p l e R s m args below meth c QM mc ms C hfr hlo hmc hms hret H locs cells slots lsC hR0 hL h1 h2
  have K := kk p l e R s m args below meth c QM mc ms C hfr hlo hmc hms hret H locs cells slots lsC hR0 hL h1 h2
  exact lv_iconst C.1 C.2.1 hd rfl K
theorem ar_bipush {x : Int} (q : Nat) (hq : pc + 2 = q) (hd : decode (bc M) pc = .ok (.bipush x, 2)) (hv : (Int8.ofInt x).toInt32 = Int32.ofInt x)
    (kk : WA G d k n M q ls (Vi x :: st) σ Q) : WA G d k n M pc ls (st) σ Q := by
  subst hq
  intro p l e R s m args below meth c QM mc ms C hfr hlo hmc hms hret H locs cells slots lsC hR0 hL h1 h2
  have K := kk p l e R s m args below meth c QM mc ms C hfr hlo hmc hms hret H locs cells slots lsC hR0 hL h1 h2
  exact lv_bipush C.1 C.2.1 hd hv K
theorem ar_sipush {x : Int} (q : Nat) (hq : pc + 3 = q) (hd : decode (bc M) pc = .ok (.sipush x, 3)) (hv : (Int16.ofInt x).toInt32 = Int32.ofInt x)
    (kk : WA G d k n M q ls (Vi x :: st) σ Q) : WA G d k n M pc ls (st) σ Q := by
  subst hq
  intro p l e R s m args below meth c QM mc ms C hfr hlo hmc hms hret H locs cells slots lsC hR0 hL h1 h2
  have K := kk p l e R s m args below meth c QM mc ms C hfr hlo hmc hms hret H locs cells slots lsC hR0 hL h1 h2
  exact lv_sipush C.1 C.2.1 hd hv K
theorem ar_lconst {i : Fin 2} (x : Int) (q : Nat) (hq : pc + 1 = q) (hd : decode (bc M) pc = .ok (.lconst i, 1)) (hv : Int64.ofNat (i : Nat) = Int64.ofInt x)
    (kk : WA G d k n M q ls (Vl x :: st) σ Q) : WA G d k n M pc ls (st) σ Q := by
  subst hq
  intro p l e R s m args below meth c QM mc ms C hfr hlo hmc hms hret H locs cells slots lsC hR0 hL h1 h2
  have K := kk p l e R s m args below meth c QM mc ms C hfr hlo hmc hms hret H locs cells slots lsC hR0 hL h1 h2
  exact lv_lconst C.1 C.2.1 hd hv K
theorem ar_ldc2 {idx : Nat} (x : Int) {w : Int64} (q : Nat) (hq : pc + 3 = q) (hd : decode (bc M) pc = .ok (.ldc2_w idx, 3)) (hw : Cond.constantLong M.1.cls idx w ∈ gT) (hv : w = Int64.ofInt x)
    (kk : WA G d k n M q ls (Vl x :: st) σ Q) : WA G d k n M pc ls (st) σ Q := by
  subst hq
  intro p l e R s m args below meth c QM mc ms C hfr hlo hmc hms hret H locs cells slots lsC hR0 hL h1 h2
  have K := kk p l e R s m args below meth c QM mc ms C hfr hlo hmc hms hret H locs cells slots lsC hR0 hL h1 h2
  subst hv
  exact lv_ldc2 C.1 C.2.1 C.2.2.2.2.1 (C.2.2.2.2.2.1 _ hw) hd K
theorem ar_iload_n {i : Fin 4} {x : Int} (q : Nat) (hq : pc + 1 = q) (hd : decode (bc M) pc = .ok (.iload_n i, 1)) (hl : ls[(i : Nat)]? = some (Vi x))
    (kk : WA G d k n M q ls (Vi x :: st) σ Q) : WA G d k n M pc ls (st) σ Q := by
  subst hq
  intro p l e R s m args below meth c QM mc ms C hfr hlo hmc hms hret H locs cells slots lsC hR0 hL h1 h2
  have K := kk p l e R s m args below meth c QM mc ms C hfr hlo hmc hms hret H locs cells slots lsC hR0 hL h1 h2
  exact lv_iload_n C.1 C.2.1 hd rfl (lv_ld hL hl (by intro h; cases h)) K
theorem ar_iload {i : Nat} {x : Int} (q : Nat) (hq : pc + 2 = q) (hd : decode (bc M) pc = .ok (.iload i, 2)) (hl : ls[i]? = some (Vi x))
    (kk : WA G d k n M q ls (Vi x :: st) σ Q) : WA G d k n M pc ls (st) σ Q := by
  subst hq
  intro p l e R s m args below meth c QM mc ms C hfr hlo hmc hms hret H locs cells slots lsC hR0 hL h1 h2
  have K := kk p l e R s m args below meth c QM mc ms C hfr hlo hmc hms hret H locs cells slots lsC hR0 hL h1 h2
  exact lv_iload C.1 C.2.1 hd (lv_ld hL hl (by intro h; cases h)) K
theorem ar_lload_n {i : Fin 4} {x : Int} (q : Nat) (hq : pc + 1 = q) (hd : decode (bc M) pc = .ok (.lload_n i, 1)) (hl : ls[(i : Nat)]? = some (Vl x))
    (kk : WA G d k n M q ls (Vl x :: st) σ Q) : WA G d k n M pc ls (st) σ Q := by
  subst hq
  intro p l e R s m args below meth c QM mc ms C hfr hlo hmc hms hret H locs cells slots lsC hR0 hL h1 h2
  have K := kk p l e R s m args below meth c QM mc ms C hfr hlo hmc hms hret H locs cells slots lsC hR0 hL h1 h2
  exact lv_lload_n C.1 C.2.1 hd rfl (lv_ld hL hl (by intro h; cases h)) K
theorem ar_lload {i : Nat} {x : Int} (q : Nat) (hq : pc + 2 = q) (hd : decode (bc M) pc = .ok (.lload i, 2)) (hl : ls[i]? = some (Vl x))
    (kk : WA G d k n M q ls (Vl x :: st) σ Q) : WA G d k n M pc ls (st) σ Q := by
  subst hq
  intro p l e R s m args below meth c QM mc ms C hfr hlo hmc hms hret H locs cells slots lsC hR0 hL h1 h2
  have K := kk p l e R s m args below meth c QM mc ms C hfr hlo hmc hms hret H locs cells slots lsC hR0 hL h1 h2
  exact lv_lload C.1 C.2.1 hd (lv_ld hL hl (by intro h; cases h)) K
theorem ar_aload_n {i : Fin 4} {r : Option Nat} (q : Nat) (hq : pc + 1 = q) (hd : decode (bc M) pc = .ok (.aload_n i, 1)) (hl : ls[(i : Nat)]? = some (Vr r))
    (kk : WA G d k n M q ls (Vr r :: st) σ Q) : WA G d k n M pc ls (st) σ Q := by
  subst hq
  intro p l e R s m args below meth c QM mc ms C hfr hlo hmc hms hret H locs cells slots lsC hR0 hL h1 h2
  have K := kk p l e R s m args below meth c QM mc ms C hfr hlo hmc hms hret H locs cells slots lsC hR0 hL h1 h2
  have hz := lv_ld hL hl (by intro h; cases h)
  cases r with
  | none => exact lv_aload_nN C.1 C.2.1 hd rfl hz K
  | some a => exact lv_aload_n C.1 C.2.1 hd rfl hz K
theorem ar_aload {i : Nat} {r : Option Nat} (q : Nat) (hq : pc + 2 = q) (hd : decode (bc M) pc = .ok (.aload i, 2)) (hl : ls[i]? = some (Vr r))
    (kk : WA G d k n M q ls (Vr r :: st) σ Q) : WA G d k n M pc ls (st) σ Q := by
  subst hq
  intro p l e R s m args below meth c QM mc ms C hfr hlo hmc hms hret H locs cells slots lsC hR0 hL h1 h2
  have K := kk p l e R s m args below meth c QM mc ms C hfr hlo hmc hms hret H locs cells slots lsC hR0 hL h1 h2
  have hz := lv_ld hL hl (by intro h; cases h)
  cases r with
  | none => exact lv_aloadN C.1 C.2.1 hd hz K
  | some a => exact lv_aload C.1 C.2.1 hd hz K
theorem ar_aload_nS {i : Fin 4} (q : Nat) (hq : pc + 1 = q) (hd : decode (bc M) pc = .ok (.aload_n i, 1)) (hl : ls[(i : Nat)]? = some Vs)
    (kk : WA G d k n M q ls (Vs :: st) σ Q) : WA G d k n M pc ls (st) σ Q := by
  subst hq
  intro p l e R s m args below meth c QM mc ms C hfr hlo hmc hms hret H locs cells slots lsC hR0 hL h1 h2
  have K := kk p l e R s m args below meth c QM mc ms C hfr hlo hmc hms hret H locs cells slots lsC hR0 hL h1 h2
  exact lv_aload_n C.1 C.2.1 hd rfl (lv_ld hL hl (by intro h; cases h)) K
theorem ar_istore_n {i : Fin 4} {x : Int} (q : Nat) (hq : pc + 1 = q) (hd : decode (bc M) pc = .ok (.istore_n i, 1)) (hlen : ls.length = M.2.2.1) (hi : (i : Nat) < ls.length) (hn : nol ls (i : Nat)) 
    (kk : WA G d k n M q (ls.set (i : Nat) (Vi x)) st σ Q) : WA G d k n M pc ls ((Vi x) :: st) σ Q := by
  subst hq
  intro p l e R s m args below meth c QM mc ms C hfr hlo hmc hms hret H locs cells slots lsC hR0 hL h1 h2
  refine lv_istore_n C.1 C.2.1 hd rfl hL (by omega) rfl fun ls' hL' => ?_
  exact kk p l e R s m args below meth c QM mc ms C hfr hlo hmc hms hret H locs cells slots ls' hR0 (lv_mono hL' (st1 (lsC := lsC) (n := 0) hi hn)) h1 h2
theorem ar_istore {i : Nat} {x : Int} (q : Nat) (hq : pc + 2 = q) (hd : decode (bc M) pc = .ok (.istore i, 2)) (hlen : ls.length = M.2.2.1) (hi : i < ls.length) (hn : nol ls i) 
    (kk : WA G d k n M q (ls.set i (Vi x)) st σ Q) : WA G d k n M pc ls ((Vi x) :: st) σ Q := by
  subst hq
  intro p l e R s m args below meth c QM mc ms C hfr hlo hmc hms hret H locs cells slots lsC hR0 hL h1 h2
  refine lv_istore C.1 C.2.1 hd hL (by omega) rfl fun ls' hL' => ?_
  exact kk p l e R s m args below meth c QM mc ms C hfr hlo hmc hms hret H locs cells slots ls' hR0 (lv_mono hL' (st1 (lsC := lsC) (n := 0) hi hn)) h1 h2
theorem ar_lstore_n {i : Fin 4} {x : Int} (q : Nat) (hq : pc + 1 = q) (hd : decode (bc M) pc = .ok (.lstore_n i, 1)) (hlen : ls.length = M.2.2.1) (hi : (i : Nat) + 1 < ls.length) (hn : nol ls (i : Nat)) 
    (kk : WA G d k n M q ((ls.set (i : Nat) (Vl x)).set ((i : Nat) + 1) Vu) st σ Q) : WA G d k n M pc ls ((Vl x) :: st) σ Q := by
  subst hq
  intro p l e R s m args below meth c QM mc ms C hfr hlo hmc hms hret H locs cells slots lsC hR0 hL h1 h2
  refine lv_lstore_n C.1 C.2.1 hd rfl hL (by omega) rfl fun ls' hL' => ?_
  exact kk p l e R s m args below meth c QM mc ms C hfr hlo hmc hms hret H locs cells slots ls' hR0 (lv_mono hL' (st2 (lsC := lsC) (n := 0) hi hn)) h1 h2
theorem ar_lstore {i : Nat} {x : Int} (q : Nat) (hq : pc + 2 = q) (hd : decode (bc M) pc = .ok (.lstore i, 2)) (hlen : ls.length = M.2.2.1) (hi : i + 1 < ls.length) (hn : nol ls i) 
    (kk : WA G d k n M q ((ls.set i (Vl x)).set (i + 1) Vu) st σ Q) : WA G d k n M pc ls ((Vl x) :: st) σ Q := by
  subst hq
  intro p l e R s m args below meth c QM mc ms C hfr hlo hmc hms hret H locs cells slots lsC hR0 hL h1 h2
  refine lv_lstore C.1 C.2.1 hd hL (by omega) rfl fun ls' hL' => ?_
  exact kk p l e R s m args below meth c QM mc ms C hfr hlo hmc hms hret H locs cells slots ls' hR0 (lv_mono hL' (st2 (lsC := lsC) (n := 0) hi hn)) h1 h2
theorem ar_astore_n {i : Fin 4} {r : Option Nat} (q : Nat) (hq : pc + 1 = q) (hd : decode (bc M) pc = .ok (.astore_n i, 1)) (hlen : ls.length = M.2.2.1) (hi : (i : Nat) < ls.length) (hn : nol ls (i : Nat)) 
    (kk : WA G d k n M q (ls.set (i : Nat) (Vr r)) st σ Q) : WA G d k n M pc ls ((Vr r) :: st) σ Q := by
  subst hq
  intro p l e R s m args below meth c QM mc ms C hfr hlo hmc hms hret H locs cells slots lsC hR0 hL h1 h2
  cases r with
  | none =>
    refine lv_astore_nN C.1 C.2.1 hd rfl hL (by omega) rfl fun ls' hL' => ?_
    exact kk p l e R s m args below meth c QM mc ms C hfr hlo hmc hms hret H locs cells slots ls' hR0 (lv_mono hL' (st1 (lsC := lsC) (n := 0) hi hn)) h1 h2
  | some a =>
    refine lv_astore_n C.1 C.2.1 hd rfl hL (by omega) rfl fun ls' hL' => ?_
    exact kk p l e R s m args below meth c QM mc ms C hfr hlo hmc hms hret H locs cells slots ls' hR0 (lv_mono hL' (st1 (lsC := lsC) (n := 0) hi hn)) h1 h2
theorem ar_astore {i : Nat} {r : Option Nat} (q : Nat) (hq : pc + 2 = q) (hd : decode (bc M) pc = .ok (.astore i, 2)) (hlen : ls.length = M.2.2.1) (hi : i < ls.length) (hn : nol ls i) 
    (kk : WA G d k n M q (ls.set i (Vr r)) st σ Q) : WA G d k n M pc ls ((Vr r) :: st) σ Q := by
  subst hq
  intro p l e R s m args below meth c QM mc ms C hfr hlo hmc hms hret H locs cells slots lsC hR0 hL h1 h2
  cases r with
  | none =>
    refine lv_astoreN C.1 C.2.1 hd hL (by omega) rfl fun ls' hL' => ?_
    exact kk p l e R s m args below meth c QM mc ms C hfr hlo hmc hms hret H locs cells slots ls' hR0 (lv_mono hL' (st1 (lsC := lsC) (n := 0) hi hn)) h1 h2
  | some a =>
    refine lv_astore C.1 C.2.1 hd hL (by omega) rfl fun ls' hL' => ?_
    exact kk p l e R s m args below meth c QM mc ms C hfr hlo hmc hms hret H locs cells slots ls' hR0 (lv_mono hL' (st1 (lsC := lsC) (n := 0) hi hn)) h1 h2
theorem ar_iinc {i : Nat} {x z : Int} (q : Nat) (hq : pc + 3 = q) (hd : decode (bc M) pc = .ok (.iinc i z, 3)) (hlen : ls.length = M.2.2.1) (hx : ls[i]? = some (Vi x)) (hn : nol ls i)
    (kk : WA G d k n M q (ls.set i (Vi (x + z))) st σ Q) : WA G d k n M pc ls st σ Q := by
  subst hq
  intro p l e R s m args below meth c QM mc ms C hfr hlo hmc hms hret H locs cells slots lsC hR0 hL h1 h2
  have hi : i < ls.length := (List.getElem?_eq_some_iff.mp hx).1
  obtain ⟨kx, hkx⟩ := List.getElem?_of_mem ((prs_mem G ls 0 (i, cv G (Vi x))).mpr ⟨i, Vi x, hx, (by intro h; cases h), by simp⟩)
  refine lv_iinc C.1 C.2.1 hd hL hkx (Int32.ofInt_add x z).symm (by omega) rfl fun ls' hL' => ?_
  exact kk p l e R s m args below meth c QM mc ms C hfr hlo hmc hms hret H locs cells slots ls' hR0 (lv_mono hL' (st1 (lsC := lsC) (n := 0) (v := Vi (x + z)) hi hn)) h1 h2
theorem ar_iadd {x y : Int} (q : Nat) (hq : pc + 1 = q) (hd : decode (bc M) pc = .ok (.iadd, 1)) 
    (kk : WA G d k n M q ls (Vi (x + y) :: st) σ Q) : WA G d k n M pc ls (Vi y :: Vi x :: st) σ Q := by
  subst hq
  intro p l e R s m args below meth c QM mc ms C hfr hlo hmc hms hret H locs cells slots lsC hR0 hL h1 h2
  have K := kk p l e R s m args below meth c QM mc ms C hfr hlo hmc hms hret H locs cells slots lsC hR0 hL h1 h2
  refine lv_iadd (x := Int32.ofInt x) (y := Int32.ofInt y) C.1 C.2.1 hd ?_
  rw [← Int32.ofInt_add]
  exact K
theorem ar_isub {x y : Int} (q : Nat) (hq : pc + 1 = q) (hd : decode (bc M) pc = .ok (.isub, 1)) 
    (kk : WA G d k n M q ls (Vi (x - y) :: st) σ Q) : WA G d k n M pc ls (Vi y :: Vi x :: st) σ Q := by
  subst hq
  intro p l e R s m args below meth c QM mc ms C hfr hlo hmc hms hret H locs cells slots lsC hR0 hL h1 h2
  have K := kk p l e R s m args below meth c QM mc ms C hfr hlo hmc hms hret H locs cells slots lsC hR0 hL h1 h2
  refine lv_isub (x := Int32.ofInt x) (y := Int32.ofInt y) C.1 C.2.1 hd ?_
  rw [← Int32.ofInt_sub]
  exact K
theorem ar_imul {x y : Int} (q : Nat) (hq : pc + 1 = q) (hd : decode (bc M) pc = .ok (.imul, 1)) 
    (kk : WA G d k n M q ls (Vi (x * y) :: st) σ Q) : WA G d k n M pc ls (Vi y :: Vi x :: st) σ Q := by
  subst hq
  intro p l e R s m args below meth c QM mc ms C hfr hlo hmc hms hret H locs cells slots lsC hR0 hL h1 h2
  have K := kk p l e R s m args below meth c QM mc ms C hfr hlo hmc hms hret H locs cells slots lsC hR0 hL h1 h2
  refine lv_imul (x := Int32.ofInt x) (y := Int32.ofInt y) C.1 C.2.1 hd ?_
  rw [← Int32.ofInt_mul]
  exact K
def iRm (x y : Int) : Int := (Int32.ofInt x - Int32.ofInt x / Int32.ofInt y * Int32.ofInt y).toInt
def iAn (x y : Int) : Int := (Int32.ofInt x &&& Int32.ofInt y).toInt
def iOr (x y : Int) : Int := (Int32.ofInt x ||| Int32.ofInt y).toInt
def iXr (x y : Int) : Int := (Int32.ofInt x ^^^ Int32.ofInt y).toInt
def iSl (x y : Int) : Int := (Int32.ofInt x <<< (Int32.ofInt y &&& 31)).toInt
def iSr (x y : Int) : Int := (Int32.ofInt x >>> (Int32.ofInt y &&& 31)).toInt
def iUs (x y : Int) : Int := ((Int32.ofInt x).toUInt32 >>> ((Int32.ofInt y).toUInt32 &&& Int32.toUInt32 31)).toInt32.toInt
def lAn (x y : Int) : Int := (Int64.ofInt x &&& Int64.ofInt y).toInt
def lOr (x y : Int) : Int := (Int64.ofInt x ||| Int64.ofInt y).toInt
def lSl (x y : Int) : Int := (Int64.ofInt x <<< ((Int32.ofInt y).toInt64 &&& 63)).toInt
def lUs (x y : Int) : Int := ((Int64.ofInt x).toUInt64 >>> ((Int32.ofInt y).toInt64.toUInt64 &&& Int64.toUInt64 63)).toInt64.toInt
theorem cv_i32 (G : GT) (z : Int32) : cv G (Vi z.toInt) = .int z := congrArg Value.int (Int32.ofInt_toInt z)
theorem cv_i64 (G : GT) (z : Int64) : cv G (Vl z.toInt) = .long z := congrArg Value.long (Int64.ofInt_toInt z)
theorem ar_irem {x y : Int} (q : Nat) (hq : pc + 1 = q) (hd : decode (bc M) pc = .ok (.irem, 1)) (hy : i32 y ∧ y ≠ 0)
    (kk : WA G d k n M q ls (Vi (iRm x y) :: st) σ Q) : WA G d k n M pc ls (Vi y :: Vi x :: st) σ Q := by
  subst hq
  intro p l e R s m args below meth c QM mc ms C hfr hlo hmc hms hret H locs cells slots lsC hR0 hL h1 h2
  have K := kk p l e R s m args below meth c QM mc ms C hfr hlo hmc hms hret H locs cells slots lsC hR0 hL h1 h2
  rw [List.map_cons, iRm, cv_i32] at K
  exact lv_irem C.1 C.2.1 hd (by rw [o_z, o_eq hy.1 (by omega)]; exact hy.2) K
theorem ar_iand {x y : Int} (q : Nat) (hq : pc + 1 = q) (hd : decode (bc M) pc = .ok (.iand, 1)) 
    (kk : WA G d k n M q ls (Vi (iAn x y) :: st) σ Q) : WA G d k n M pc ls (Vi y :: Vi x :: st) σ Q := by
  subst hq
  intro p l e R s m args below meth c QM mc ms C hfr hlo hmc hms hret H locs cells slots lsC hR0 hL h1 h2
  have K := kk p l e R s m args below meth c QM mc ms C hfr hlo hmc hms hret H locs cells slots lsC hR0 hL h1 h2
  rw [List.map_cons, iAn, cv_i32] at K
  exact lv_iand C.1 C.2.1 hd  K
theorem ar_ior {x y : Int} (q : Nat) (hq : pc + 1 = q) (hd : decode (bc M) pc = .ok (.ior, 1)) 
    (kk : WA G d k n M q ls (Vi (iOr x y) :: st) σ Q) : WA G d k n M pc ls (Vi y :: Vi x :: st) σ Q := by
  subst hq
  intro p l e R s m args below meth c QM mc ms C hfr hlo hmc hms hret H locs cells slots lsC hR0 hL h1 h2
  have K := kk p l e R s m args below meth c QM mc ms C hfr hlo hmc hms hret H locs cells slots lsC hR0 hL h1 h2
  rw [List.map_cons, iOr, cv_i32] at K
  exact lv_ior C.1 C.2.1 hd  K
theorem ar_ixor {x y : Int} (q : Nat) (hq : pc + 1 = q) (hd : decode (bc M) pc = .ok (.ixor, 1)) 
    (kk : WA G d k n M q ls (Vi (iXr x y) :: st) σ Q) : WA G d k n M pc ls (Vi y :: Vi x :: st) σ Q := by
  subst hq
  intro p l e R s m args below meth c QM mc ms C hfr hlo hmc hms hret H locs cells slots lsC hR0 hL h1 h2
  have K := kk p l e R s m args below meth c QM mc ms C hfr hlo hmc hms hret H locs cells slots lsC hR0 hL h1 h2
  rw [List.map_cons, iXr, cv_i32] at K
  exact lv_ixor C.1 C.2.1 hd  K
theorem ar_ishl {x y : Int} (q : Nat) (hq : pc + 1 = q) (hd : decode (bc M) pc = .ok (.ishl, 1)) 
    (kk : WA G d k n M q ls (Vi (iSl x y) :: st) σ Q) : WA G d k n M pc ls (Vi y :: Vi x :: st) σ Q := by
  subst hq
  intro p l e R s m args below meth c QM mc ms C hfr hlo hmc hms hret H locs cells slots lsC hR0 hL h1 h2
  have K := kk p l e R s m args below meth c QM mc ms C hfr hlo hmc hms hret H locs cells slots lsC hR0 hL h1 h2
  rw [List.map_cons, iSl, cv_i32] at K
  exact lv_ishl C.1 C.2.1 hd  K
theorem ar_ishr {x y : Int} (q : Nat) (hq : pc + 1 = q) (hd : decode (bc M) pc = .ok (.ishr, 1)) 
    (kk : WA G d k n M q ls (Vi (iSr x y) :: st) σ Q) : WA G d k n M pc ls (Vi y :: Vi x :: st) σ Q := by
  subst hq
  intro p l e R s m args below meth c QM mc ms C hfr hlo hmc hms hret H locs cells slots lsC hR0 hL h1 h2
  have K := kk p l e R s m args below meth c QM mc ms C hfr hlo hmc hms hret H locs cells slots lsC hR0 hL h1 h2
  rw [List.map_cons, iSr, cv_i32] at K
  exact lv_ishr C.1 C.2.1 hd  K
theorem ar_iushr {x y : Int} (q : Nat) (hq : pc + 1 = q) (hd : decode (bc M) pc = .ok (.iushr, 1)) 
    (kk : WA G d k n M q ls (Vi (iUs x y) :: st) σ Q) : WA G d k n M pc ls (Vi y :: Vi x :: st) σ Q := by
  subst hq
  intro p l e R s m args below meth c QM mc ms C hfr hlo hmc hms hret H locs cells slots lsC hR0 hL h1 h2
  have K := kk p l e R s m args below meth c QM mc ms C hfr hlo hmc hms hret H locs cells slots lsC hR0 hL h1 h2
  rw [List.map_cons, iUs, cv_i32] at K
  exact lv_iushr C.1 C.2.1 hd rfl K
theorem ar_land {x y : Int} (q : Nat) (hq : pc + 1 = q) (hd : decode (bc M) pc = .ok (.land, 1)) 
    (kk : WA G d k n M q ls (Vl (lAn x y) :: st) σ Q) : WA G d k n M pc ls (Vl y :: Vl x :: st) σ Q := by
  subst hq
  intro p l e R s m args below meth c QM mc ms C hfr hlo hmc hms hret H locs cells slots lsC hR0 hL h1 h2
  have K := kk p l e R s m args below meth c QM mc ms C hfr hlo hmc hms hret H locs cells slots lsC hR0 hL h1 h2
  rw [List.map_cons, lAn, cv_i64] at K
  exact lv_land C.1 C.2.1 hd  K
theorem ar_lor {x y : Int} (q : Nat) (hq : pc + 1 = q) (hd : decode (bc M) pc = .ok (.lor, 1)) 
    (kk : WA G d k n M q ls (Vl (lOr x y) :: st) σ Q) : WA G d k n M pc ls (Vl y :: Vl x :: st) σ Q := by
  subst hq
  intro p l e R s m args below meth c QM mc ms C hfr hlo hmc hms hret H locs cells slots lsC hR0 hL h1 h2
  have K := kk p l e R s m args below meth c QM mc ms C hfr hlo hmc hms hret H locs cells slots lsC hR0 hL h1 h2
  rw [List.map_cons, lOr, cv_i64] at K
  exact lv_lor C.1 C.2.1 hd  K
theorem ar_lshl {x y : Int} (q : Nat) (hq : pc + 1 = q) (hd : decode (bc M) pc = .ok (.lshl, 1)) 
    (kk : WA G d k n M q ls (Vl (lSl x y) :: st) σ Q) : WA G d k n M pc ls (Vi y :: Vl x :: st) σ Q := by
  subst hq
  intro p l e R s m args below meth c QM mc ms C hfr hlo hmc hms hret H locs cells slots lsC hR0 hL h1 h2
  have K := kk p l e R s m args below meth c QM mc ms C hfr hlo hmc hms hret H locs cells slots lsC hR0 hL h1 h2
  rw [List.map_cons, lSl, cv_i64] at K
  exact lv_lshl C.1 C.2.1 hd rfl K
theorem ar_lushr {x y : Int} (q : Nat) (hq : pc + 1 = q) (hd : decode (bc M) pc = .ok (.lushr, 1)) 
    (kk : WA G d k n M q ls (Vl (lUs x y) :: st) σ Q) : WA G d k n M pc ls (Vi y :: Vl x :: st) σ Q := by
  subst hq
  intro p l e R s m args below meth c QM mc ms C hfr hlo hmc hms hret H locs cells slots lsC hR0 hL h1 h2
  have K := kk p l e R s m args below meth c QM mc ms C hfr hlo hmc hms hret H locs cells slots lsC hR0 hL h1 h2
  rw [List.map_cons, lUs, cv_i64] at K
  exact lv_lushr C.1 C.2.1 hd rfl K
theorem ar_i2l {x : Int} (q : Nat) (hq : pc + 1 = q) (hd : decode (bc M) pc = .ok (.i2l, 1)) (hx : i32 x)
    (kk : WA G d k n M q ls (Vl x :: st) σ Q) : WA G d k n M pc ls (Vi x :: st) σ Q := by
  subst hq
  intro p l e R s m args below meth c QM mc ms C hfr hlo hmc hms hret H locs cells slots lsC hR0 hL h1 h2
  have K := kk p l e R s m args below meth c QM mc ms C hfr hlo hmc hms hret H locs cells slots lsC hR0 hL h1 h2
  exact lv_i2l C.1 C.2.1 hd (Int32.toInt64_ofInt (by show (-2147483648 : Int) ≤ x; omega) (by show x ≤ (2147483647 : Int); omega)) K
theorem ar_l2i {x : Int} (q : Nat) (hq : pc + 1 = q) (hd : decode (bc M) pc = .ok (.l2i, 1)) 
    (kk : WA G d k n M q ls (Vi x :: st) σ Q) : WA G d k n M pc ls (Vl x :: st) σ Q := by
  subst hq
  intro p l e R s m args below meth c QM mc ms C hfr hlo hmc hms hret H locs cells slots lsC hR0 hL h1 h2
  have K := kk p l e R s m args below meth c QM mc ms C hfr hlo hmc hms hret H locs cells slots lsC hR0 hL h1 h2
  exact lv_l2i C.1 C.2.1 hd Int64.toInt32_ofInt K
theorem ar_lcmp {x y : Int} (q : Nat) (hq : pc + 1 = q) (hd : decode (bc M) pc = .ok (.lcmp, 1)) (hx : i64 x) (hy : i64 y)
    (kk : WA G d k n M q ls (Vi (if y < x then 1 else if x = y then 0 else -1) :: st) σ Q) : WA G d k n M pc ls (Vl y :: Vl x :: st) σ Q := by
  subst hq
  intro p l e R s m args below meth c QM mc ms C hfr hlo hmc hms hret H locs cells slots lsC hR0 hL h1 h2
  have K := kk p l e R s m args below meth c QM mc ms C hfr hlo hmc hms hret H locs cells slots lsC hR0 hL h1 h2
  refine W.lcmp (x := Int64.ofInt x) (y := Int64.ofInt y) C.1 C.2.1 hd ?_
  have e : Value.int (lg_cmp (Int64.ofInt x) (Int64.ofInt y)) = cv G (Vi (if y < x then 1 else if x = y then 0 else -1)) := by
    unfold lg_cmp
    simp only [gt_iff_lt, Int64.lt_iff_toInt_lt, ← Int64.toInt_inj, o_L hx, o_L hy]
    split
    · rfl
    · split <;> rfl
  rw [e]
  exact K
theorem ar_dup {v : AV} (q : Nat) (hq : pc + 1 = q) (hd : decode (bc M) pc = .ok (.dup, 1)) (hv : ∀ G : GT, (cv G v).category = 1)
    (kk : WA G d k n M q ls (v :: v :: st) σ Q) : WA G d k n M pc ls (v :: st) σ Q := by
  subst hq
  intro p l e R s m args below meth c QM mc ms C hfr hlo hmc hms hret H locs cells slots lsC hR0 hL h1 h2
  have K := kk p l e R s m args below meth c QM mc ms C hfr hlo hmc hms hret H locs cells slots lsC hR0 hL h1 h2
  exact lv_dup C.1 C.2.1 hd (hv G) K
theorem ar_dup2 {v w : AV} (q : Nat) (hq : pc + 1 = q) (hd : decode (bc M) pc = .ok (.dup2, 1)) (hv : ∀ G : GT, (cv G v).category = 1 ∧ (cv G w).category = 1)
    (kk : WA G d k n M q ls (v :: w :: v :: w :: st) σ Q) : WA G d k n M pc ls (v :: w :: st) σ Q := by
  subst hq
  intro p l e R s m args below meth c QM mc ms C hfr hlo hmc hms hret H locs cells slots lsC hR0 hL h1 h2
  have K := kk p l e R s m args below meth c QM mc ms C hfr hlo hmc hms hret H locs cells slots lsC hR0 hL h1 h2
  exact lv_dup2_11 C.1 C.2.1 hd (hv G).1 (hv G).2 K
theorem ar_pop {v : AV} (q : Nat) (hq : pc + 1 = q) (hd : decode (bc M) pc = .ok (.pop, 1)) (hv : ∀ G : GT, (cv G v).category = 1)
    (kk : WA G d k n M q ls (st) σ Q) : WA G d k n M pc ls (v :: st) σ Q := by
  subst hq
  intro p l e R s m args below meth c QM mc ms C hfr hlo hmc hms hret H locs cells slots lsC hR0 hL h1 h2
  have K := kk p l e R s m args below meth c QM mc ms C hfr hlo hmc hms hret H locs cells slots lsC hR0 hL h1 h2
  exact lv_pop C.1 C.2.1 hd (hv G) K
theorem ar_icmp_eq {x y off : Int} (t q : Nat) (hq : pc + 3 = q) (ht : (pc : Int) + off = (t : Int)) (hd : decode (bc M) pc = .ok (.if_icmp .eq off, 3)) (hx : i32 x) (hy : i32 y)
    (kt : x = y → WA G d k n M t ls st σ Q) (kf : ¬ (x = y) → WA G d k n M q ls st σ Q) : WA G d k n M pc ls (Vi y :: Vi x :: st) σ Q := by
  subst hq
  intro p l e R s m args below meth c QM mc ms C hfr hlo hmc hms hret H locs cells slots lsC hR0 hL h1 h2
  refine lv_icmp_eq C.1 C.2.1 hd ht (fun h => ?_) (fun h => ?_)
  · have h9 : x = y := (o_eq hx hy).mp h
    exact (kt h9) p l e R s m args below meth c QM mc ms C hfr hlo hmc hms hret H locs cells slots lsC hR0 hL h1 h2
  · exact (kf (fun h9 => h ((o_eq hx hy).mpr h9))) p l e R s m args below meth c QM mc ms C hfr hlo hmc hms hret H locs cells slots lsC hR0 hL h1 h2
theorem ar_if_eq {x off : Int} (t q : Nat) (hq : pc + 3 = q) (ht : (pc : Int) + off = (t : Int)) (hd : decode (bc M) pc = .ok (.ifCond .eq off, 3)) (hx : i32 x)
    (kt : x = 0 → WA G d k n M t ls st σ Q) (kf : ¬ (x = 0) → WA G d k n M q ls st σ Q) : WA G d k n M pc ls (Vi x :: st) σ Q := by
  subst hq
  intro p l e R s m args below meth c QM mc ms C hfr hlo hmc hms hret H locs cells slots lsC hR0 hL h1 h2
  refine lv_if_eq C.1 C.2.1 hd ht (fun h => ?_) (fun h => ?_)
  · have h9 : x = 0 := (o_eq hx (show i32 0 by omega)).mp h
    exact (kt h9) p l e R s m args below meth c QM mc ms C hfr hlo hmc hms hret H locs cells slots lsC hR0 hL h1 h2
  · exact (kf (fun h9 => h ((o_eq hx (show i32 0 by omega)).mpr h9))) p l e R s m args below meth c QM mc ms C hfr hlo hmc hms hret H locs cells slots lsC hR0 hL h1 h2
theorem ar_icmp_ne {x y off : Int} (t q : Nat) (hq : pc + 3 = q) (ht : (pc : Int) + off = (t : Int)) (hd : decode (bc M) pc = .ok (.if_icmp .ne off, 3)) (hx : i32 x) (hy : i32 y)
    (kt : ¬ x = y → WA G d k n M t ls st σ Q) (kf : x = y → WA G d k n M q ls st σ Q) : WA G d k n M pc ls (Vi y :: Vi x :: st) σ Q := by
  subst hq
  intro p l e R s m args below meth c QM mc ms C hfr hlo hmc hms hret H locs cells slots lsC hR0 hL h1 h2
  refine lv_icmp_ne C.1 C.2.1 hd ht (fun h => ?_) (fun h => ?_)
  · have h9 : ¬ x = y := (not_congr (o_eq hx hy)).mp h
    exact (kt h9) p l e R s m args below meth c QM mc ms C hfr hlo hmc hms hret H locs cells slots lsC hR0 hL h1 h2
  · exact (kf ((o_eq hx hy).mp h)) p l e R s m args below meth c QM mc ms C hfr hlo hmc hms hret H locs cells slots lsC hR0 hL h1 h2
theorem ar_if_ne {x off : Int} (t q : Nat) (hq : pc + 3 = q) (ht : (pc : Int) + off = (t : Int)) (hd : decode (bc M) pc = .ok (.ifCond .ne off, 3)) (hx : i32 x)
    (kt : ¬ x = 0 → WA G d k n M t ls st σ Q) (kf : x = 0 → WA G d k n M q ls st σ Q) : WA G d k n M pc ls (Vi x :: st) σ Q := by
  subst hq
  intro p l e R s m args below meth c QM mc ms C hfr hlo hmc hms hret H locs cells slots lsC hR0 hL h1 h2
  refine lv_if_ne C.1 C.2.1 hd ht (fun h => ?_) (fun h => ?_)
  · have h9 : ¬ x = 0 := (not_congr (o_eq hx (show i32 0 by omega))).mp h
    exact (kt h9) p l e R s m args below meth c QM mc ms C hfr hlo hmc hms hret H locs cells slots lsC hR0 hL h1 h2
  · exact (kf ((o_eq hx (show i32 0 by omega)).mp h)) p l e R s m args below meth c QM mc ms C hfr hlo hmc hms hret H locs cells slots lsC hR0 hL h1 h2
theorem ar_icmp_lt {x y off : Int} (t q : Nat) (hq : pc + 3 = q) (ht : (pc : Int) + off = (t : Int)) (hd : decode (bc M) pc = .ok (.if_icmp .lt off, 3)) (hx : i32 x) (hy : i32 y)
    (kt : x < y → WA G d k n M t ls st σ Q) (kf : ¬ (x < y) → WA G d k n M q ls st σ Q) : WA G d k n M pc ls (Vi y :: Vi x :: st) σ Q := by
  subst hq
  intro p l e R s m args below meth c QM mc ms C hfr hlo hmc hms hret H locs cells slots lsC hR0 hL h1 h2
  refine lv_icmp_lt C.1 C.2.1 hd ht (fun h => ?_) (fun h => ?_)
  · have h9 : x < y := (o_lt hx hy).mp h
    exact (kt h9) p l e R s m args below meth c QM mc ms C hfr hlo hmc hms hret H locs cells slots lsC hR0 hL h1 h2
  · exact (kf (fun h9 => h ((o_lt hx hy).mpr h9))) p l e R s m args below meth c QM mc ms C hfr hlo hmc hms hret H locs cells slots lsC hR0 hL h1 h2
theorem ar_if_lt {x off : Int} (t q : Nat) (hq : pc + 3 = q) (ht : (pc : Int) + off = (t : Int)) (hd : decode (bc M) pc = .ok (.ifCond .lt off, 3)) (hx : i32 x)
    (kt : x < 0 → WA G d k n M t ls st σ Q) (kf : ¬ (x < 0) → WA G d k n M q ls st σ Q) : WA G d k n M pc ls (Vi x :: st) σ Q := by
  subst hq
  intro p l e R s m args below meth c QM mc ms C hfr hlo hmc hms hret H locs cells slots lsC hR0 hL h1 h2
  refine lv_if_lt C.1 C.2.1 hd ht (fun h => ?_) (fun h => ?_)
  · have h9 : x < 0 := (o_lt hx (show i32 0 by omega)).mp h
    exact (kt h9) p l e R s m args below meth c QM mc ms C hfr hlo hmc hms hret H locs cells slots lsC hR0 hL h1 h2
  · exact (kf (fun h9 => h ((o_lt hx (show i32 0 by omega)).mpr h9))) p l e R s m args below meth c QM mc ms C hfr hlo hmc hms hret H locs cells slots lsC hR0 hL h1 h2
theorem ar_icmp_ge {x y off : Int} (t q : Nat) (hq : pc + 3 = q) (ht : (pc : Int) + off = (t : Int)) (hd : decode (bc M) pc = .ok (.if_icmp .ge off, 3)) (hx : i32 x) (hy : i32 y)
    (kt : y ≤ x → WA G d k n M t ls st σ Q) (kf : ¬ (y ≤ x) → WA G d k n M q ls st σ Q) : WA G d k n M pc ls (Vi y :: Vi x :: st) σ Q := by
  subst hq
  intro p l e R s m args below meth c QM mc ms C hfr hlo hmc hms hret H locs cells slots lsC hR0 hL h1 h2
  refine lv_icmp_ge C.1 C.2.1 hd ht (fun h => ?_) (fun h => ?_)
  · have h9 : y ≤ x := (o_le hy hx).mp h
    exact (kt h9) p l e R s m args below meth c QM mc ms C hfr hlo hmc hms hret H locs cells slots lsC hR0 hL h1 h2
  · exact (kf (fun h9 => h ((o_le hy hx).mpr h9))) p l e R s m args below meth c QM mc ms C hfr hlo hmc hms hret H locs cells slots lsC hR0 hL h1 h2
theorem ar_if_ge {x off : Int} (t q : Nat) (hq : pc + 3 = q) (ht : (pc : Int) + off = (t : Int)) (hd : decode (bc M) pc = .ok (.ifCond .ge off, 3)) (hx : i32 x)
    (kt : 0 ≤ x → WA G d k n M t ls st σ Q) (kf : ¬ (0 ≤ x) → WA G d k n M q ls st σ Q) : WA G d k n M pc ls (Vi x :: st) σ Q := by
  subst hq
  intro p l e R s m args below meth c QM mc ms C hfr hlo hmc hms hret H locs cells slots lsC hR0 hL h1 h2
  refine lv_if_ge C.1 C.2.1 hd ht (fun h => ?_) (fun h => ?_)
  · have h9 : 0 ≤ x := (o_le (show i32 0 by omega) hx).mp h
    exact (kt h9) p l e R s m args below meth c QM mc ms C hfr hlo hmc hms hret H locs cells slots lsC hR0 hL h1 h2
  · exact (kf (fun h9 => h ((o_le (show i32 0 by omega) hx).mpr h9))) p l e R s m args below meth c QM mc ms C hfr hlo hmc hms hret H locs cells slots lsC hR0 hL h1 h2
theorem ar_icmp_gt {x y off : Int} (t q : Nat) (hq : pc + 3 = q) (ht : (pc : Int) + off = (t : Int)) (hd : decode (bc M) pc = .ok (.if_icmp .gt off, 3)) (hx : i32 x) (hy : i32 y)
    (kt : y < x → WA G d k n M t ls st σ Q) (kf : ¬ (y < x) → WA G d k n M q ls st σ Q) : WA G d k n M pc ls (Vi y :: Vi x :: st) σ Q := by
  subst hq
  intro p l e R s m args below meth c QM mc ms C hfr hlo hmc hms hret H locs cells slots lsC hR0 hL h1 h2
  refine lv_icmp_gt C.1 C.2.1 hd ht (fun h => ?_) (fun h => ?_)
  · have h9 : y < x := (o_lt hy hx).mp h
    exact (kt h9) p l e R s m args below meth c QM mc ms C hfr hlo hmc hms hret H locs cells slots lsC hR0 hL h1 h2
  · exact (kf (fun h9 => h ((o_lt hy hx).mpr h9))) p l e R s m args below meth c QM mc ms C hfr hlo hmc hms hret H locs cells slots lsC hR0 hL h1 h2
theorem ar_if_gt {x off : Int} (t q : Nat) (hq : pc + 3 = q) (ht : (pc : Int) + off = (t : Int)) (hd : decode (bc M) pc = .ok (.ifCond .gt off, 3)) (hx : i32 x)
    (kt : 0 < x → WA G d k n M t ls st σ Q) (kf : ¬ (0 < x) → WA G d k n M q ls st σ Q) : WA G d k n M pc ls (Vi x :: st) σ Q := by
  subst hq
  intro p l e R s m args below meth c QM mc ms C hfr hlo hmc hms hret H locs cells slots lsC hR0 hL h1 h2
  refine lv_if_gt C.1 C.2.1 hd ht (fun h => ?_) (fun h => ?_)
  · have h9 : 0 < x := (o_lt (show i32 0 by omega) hx).mp h
    exact (kt h9) p l e R s m args below meth c QM mc ms C hfr hlo hmc hms hret H locs cells slots lsC hR0 hL h1 h2
  · exact (kf (fun h9 => h ((o_lt (show i32 0 by omega) hx).mpr h9))) p l e R s m args below meth c QM mc ms C hfr hlo hmc hms hret H locs cells slots lsC hR0 hL h1 h2
theorem ar_icmp_le {x y off : Int} (t q : Nat) (hq : pc + 3 = q) (ht : (pc : Int) + off = (t : Int)) (hd : decode (bc M) pc = .ok (.if_icmp .le off, 3)) (hx : i32 x) (hy : i32 y)
    (kt : x ≤ y → WA G d k n M t ls st σ Q) (kf : ¬ (x ≤ y) → WA G d k n M q ls st σ Q) : WA G d k n M pc ls (Vi y :: Vi x :: st) σ Q := by
  subst hq
  intro p l e R s m args below meth c QM mc ms C hfr hlo hmc hms hret H locs cells slots lsC hR0 hL h1 h2
  refine lv_icmp_le C.1 C.2.1 hd ht (fun h => ?_) (fun h => ?_)
  · have h9 : x ≤ y := (o_le hx hy).mp h
    exact (kt h9) p l e R s m args below meth c QM mc ms C hfr hlo hmc hms hret H locs cells slots lsC hR0 hL h1 h2
  · exact (kf (fun h9 => h ((o_le hx hy).mpr h9))) p l e R s m args below meth c QM mc ms C hfr hlo hmc hms hret H locs cells slots lsC hR0 hL h1 h2
theorem ar_if_le {x off : Int} (t q : Nat) (hq : pc + 3 = q) (ht : (pc : Int) + off = (t : Int)) (hd : decode (bc M) pc = .ok (.ifCond .le off, 3)) (hx : i32 x)
    (kt : x ≤ 0 → WA G d k n M t ls st σ Q) (kf : ¬ (x ≤ 0) → WA G d k n M q ls st σ Q) : WA G d k n M pc ls (Vi x :: st) σ Q := by
  subst hq
  intro p l e R s m args below meth c QM mc ms C hfr hlo hmc hms hret H locs cells slots lsC hR0 hL h1 h2
  refine lv_if_le C.1 C.2.1 hd ht (fun h => ?_) (fun h => ?_)
  · have h9 : x ≤ 0 := (o_le hx (show i32 0 by omega)).mp h
    exact (kt h9) p l e R s m args below meth c QM mc ms C hfr hlo hmc hms hret H locs cells slots lsC hR0 hL h1 h2
  · exact (kf (fun h9 => h ((o_le hx (show i32 0 by omega)).mpr h9))) p l e R s m args below meth c QM mc ms C hfr hlo hmc hms hret H locs cells slots lsC hR0 hL h1 h2
theorem ar_goto {off : Int} (t : Nat) (ht : (pc : Int) + off = (t : Int)) (hd : decode (bc M) pc = .ok (.goto off, 3)) (kk : WA G d k n M t ls st σ Q) : WA G d k n M pc ls st σ Q := by
  intro p l e R s m args below meth c QM mc ms C hfr hlo hmc hms hret H locs cells slots lsC hR0 hL h1 h2
  exact lv_goto C.1 C.2.1 hd ht (kk p l e R s m args below meth c QM mc ms C hfr hlo hmc hms hret H locs cells slots lsC hR0 hL h1 h2)
theorem ar_icmp_eqT {x off : Int} (t : Nat) (ht : (pc : Int) + off = (t : Int)) (hd : decode (bc M) pc = .ok (.if_icmp .eq off, 3)) (kk : WA G d k n M t ls st σ Q) : WA G d k n M pc ls (Vi x :: Vi x :: st) σ Q := by
  intro p l e R s m args below meth c QM mc ms C hfr hlo hmc hms hret H locs cells slots lsC hR0 hL h1 h2
  exact lv_icmp_eq C.1 C.2.1 hd ht (fun _ => kk p l e R s m args below meth c QM mc ms C hfr hlo hmc hms hret H locs cells slots lsC hR0 hL h1 h2) (fun h => absurd rfl h)
theorem ar_ifnull {r : Option Nat} {off : Int} (t q : Nat) (hq : pc + 3 = q) (ht : (pc : Int) + off = (t : Int)) (hd : decode (bc M) pc = .ok (.ifnull off, 3)) (kt : r = none → WA G d k n M t ls st σ Q) (kf : ∀ a, r = some a → WA G d k n M q ls st σ Q) : WA G d k n M pc ls (Vr r :: st) σ Q := by
  subst hq
  intro p l e R s m args below meth c QM mc ms C hfr hlo hmc hms hret H locs cells slots lsC hR0 hL h1 h2
  cases r with
  | none => exact lv_ifnullN C.1 C.2.1 hd ht ((kt rfl) p l e R s m args below meth c QM mc ms C hfr hlo hmc hms hret H locs cells slots lsC hR0 hL h1 h2)
  | some a => exact lv_ifnull C.1 C.2.1 hd ((kf a rfl) p l e R s m args below meth c QM mc ms C hfr hlo hmc hms hret H locs cells slots lsC hR0 hL h1 h2)
theorem ar_ifnonnull {r : Option Nat} {off : Int} (t q : Nat) (hq : pc + 3 = q) (ht : (pc : Int) + off = (t : Int)) (hd : decode (bc M) pc = .ok (.ifnonnull off, 3)) (kt : ∀ a, r = some a → WA G d k n M t ls st σ Q) (kf : r = none → WA G d k n M q ls st σ Q) : WA G d k n M pc ls (Vr r :: st) σ Q := by
  subst hq
  intro p l e R s m args below meth c QM mc ms C hfr hlo hmc hms hret H locs cells slots lsC hR0 hL h1 h2
  cases r with
  | none => exact lv_ifnonnullN C.1 C.2.1 hd ((kf rfl) p l e R s m args below meth c QM mc ms C hfr hlo hmc hms hret H locs cells slots lsC hR0 hL h1 h2)
  | some a => exact lv_ifnonnull C.1 C.2.1 hd ht ((kt a rfl) p l e R s m args below meth c QM mc ms C hfr hlo hmc hms hret H locs cells slots lsC hR0 hL h1 h2)
theorem ar_tsIn {x dflt lo hi off : Int} {offs : Array Int} {len : Nat} (t : Nat) (hd : decode (bc M) pc = .ok (.tableswitch dflt lo hi offs, len)) (hx : i32 x) (h0 : lo ≤ x ∧ x ≤ hi) (ho : offs[(x - lo).toNat]? = some off) (ht : (pc : Int) + off = (t : Int)) (kk : WA G d k n M t ls st σ Q) : WA G d k n M pc ls (Vi x :: st) σ Q := by
  intro p l e R s m args below meth c QM mc ms C hfr hlo hmc hms hret H locs cells slots lsC hR0 hL h1 h2
  exact lv_tableIn C.1 C.2.1 hd (by rw [o_I hx]; omega) (by rw [o_I hx]; omega) (by rw [o_I hx]; exact ho) ht (kk p l e R s m args below meth c QM mc ms C hfr hlo hmc hms hret H locs cells slots lsC hR0 hL h1 h2)
theorem ar_tsOut {x dflt lo hi : Int} {offs : Array Int} {len : Nat} (t : Nat) (hd : decode (bc M) pc = .ok (.tableswitch dflt lo hi offs, len)) (hx : i32 x) (h0 : x < lo ∨ hi < x) (ht : (pc : Int) + dflt = (t : Int)) (kk : WA G d k n M t ls st σ Q) : WA G d k n M pc ls (Vi x :: st) σ Q := by
  intro p l e R s m args below meth c QM mc ms C hfr hlo hmc hms hret H locs cells slots lsC hR0 hL h1 h2
  exact lv_tableOut C.1 C.2.1 hd (by rw [o_I hx]; exact h0) ht (kk p l e R s m args below meth c QM mc ms C hfr hlo hmc hms hret H locs cells slots lsC hR0 hL h1 h2)
theorem ar_lsw {x dflt off : Int} {ps : Array (Int × Int)} {len : Nat} (t : Nat) (hd : decode (bc M) pc = .ok (.lookupswitch dflt ps, len)) (hp : (ps.toList.zip (ps.toList.drop 1)).all (fun (a, next) => a.1 < next.1) = true) (hx : i32 x) (ho : Op.lookupswitch.offset ps.toList dflt x = off) (ht : (pc : Int) + off = (t : Int)) (kk : WA G d k n M t ls st σ Q) : WA G d k n M pc ls (Vi x :: st) σ Q := by
  intro p l e R s m args below meth c QM mc ms C hfr hlo hmc hms hret H locs cells slots lsC hR0 hL h1 h2
  exact lv_lookup C.1 C.2.1 hd hp (by rw [o_I hx]; exact ho) ht (kk p l e R s m args below meth c QM mc ms C hfr hlo hmc hms hret H locs cells slots lsC hR0 hL h1 h2)
end ARows
