/-! EightParts$Lattice: units shared, the nearest -/
section XLW
variable {G : xG} {l : Launch} {M : xM} {d : Nat} {Z : List Frame → Array Value → State → Nat → Nat → State → Prop} {k n pc pc2 : Nat} {L : xL} {st : List Value} {h : xH}
theorem x_ldcw {idx : Nat} {v : Int32} (hd : decode M.2.1 pc = .ok (.ldc_w idx, 3)) (hp : pc + 3 = pc2) (hw : Cond.constant M.1.cls idx v ∈ xTT) (kk : xWP G l M d Z k n pc2 L (.int v :: st) h) : xWP G l M d Z k n pc L (st) h := by
  intro p e R s m args below meth c H locs cells slots mc ms ls hO hR hS hk hn hl
  subst hp
  exact lv_ldcw hO.1 hO.2.1 hO.2.2.2.2.2.2.1 (hO.2.2.2.2.2.2.2.1 _ hw) hd (kk p e R s m args below meth c H locs cells slots mc ms ls hO hR hS hk hn hl)
end XLW
def bitN (v : Nat) : Nat := v % 2 + v / 2 % 2 + v / 4 % 2 + v / 8 % 2 + v / 16 % 2 + v / 32 % 2 + v / 64 % 2 + v / 128 % 2
def bc1 (x : Int32) : Int32 := x - ((x.toUInt32 >>> ((nI 1).toUInt32 &&& Int32.toUInt32 31)).toInt32 &&& 1431655765)
def bc2 (x : Int32) : Int32 := (x &&& 858993459) + ((x.toUInt32 >>> ((nI 2).toUInt32 &&& Int32.toUInt32 31)).toInt32 &&& 858993459)
def bc3 (x : Int32) : Int32 := (x + (x.toUInt32 >>> ((nI 4).toUInt32 &&& Int32.toUInt32 31)).toInt32) &&& 252645135
def bc4 (x : Int32) : Int32 := x + (x.toUInt32 >>> ((nI 8).toUInt32 &&& Int32.toUInt32 31)).toInt32
def bc5 (x : Int32) : Int32 := x + (x.toUInt32 >>> ((nI 16).toUInt32 &&& Int32.toUInt32 31)).toInt32
theorem bc_eq : ∀ v, v < 256 → bc5 (bc4 (bc3 (bc2 (bc1 (nI v))))) &&& nI 63 = nI (bitN v) := by decide +kernel
theorem bit_le : ∀ v, v < 256 → bitN v ≤ 8 := by decide +kernel
def zSh (o p : Nat) : Nat → Nat
  | 0 => 0
  | k + 1 => zSh o p k + (if bitN (exN (zCode.getD k 0) o) ≤ 4 ∧ ofO p (exN (zCode.getD k 0) o) = true then 16 else 0)
theorem zSh_le (o p : Nat) : ∀ k, zSh o p k ≤ 16 * k
  | 0 => Nat.le_refl 0
  | k + 1 => by
    have := zSh_le o p k
    rw [zSh]
    split <;> omega
theorem inc16 (i : Nat) : nI i + Int32.ofInt 16 = nI (i + 16) := by
  rw [show Int32.ofInt 16 = nI 16 by decide]
  exact nI_add i 16
theorem mw_le (o : Nat) : mwN o ≤ 16 := by unfold mwN; split <;> omega
section NEAR
variable {G : xG} {l : Launch} {d : Nat} {h : xH} {Q : Option Value → xH → Prop}
theorem c_bitCount {v : Nat} (hv : v < 256) (K : Q (some (.int (nI (bitN v)))) h) : xCt G l mJ6_bitCount_0f7a4 d [.int (nI v)] h 0 0 Q := by
  refine xCt_of (by decide) (Nat.le_of_ble_eq_true rfl) ?_
  refine x_iload_n (i := 0) dJ6_bitCount_0f7a4_0 rfl rfl rfl ?_
  refine x_iload_n (i := 0) dJ6_bitCount_0f7a4_1 rfl rfl rfl ?_
  refine x_iconst dJ6_bitCount_0f7a4_2 rfl iC_1 ?_
  refine x_iushr dJ6_bitCount_0f7a4_3 rfl ?_
  refine x_ldcw dJ6_bitCount_0f7a4_4 rfl cJ6_265 ?_
  refine x_iand dJ6_bitCount_0f7a4_7 rfl ?_
  refine x_isub dJ6_bitCount_0f7a4_8 rfl ?_
  refine x_istore_n (i := 0) dJ6_bitCount_0f7a4_9 rfl rfl (by decide) ?_
  refine x_iload_n (i := 0) dJ6_bitCount_0f7a4_10 rfl rfl rfl ?_
  refine x_ldcw dJ6_bitCount_0f7a4_11 rfl cJ6_266 ?_
  refine x_iand dJ6_bitCount_0f7a4_14 rfl ?_
  refine x_iload_n (i := 0) dJ6_bitCount_0f7a4_15 rfl rfl rfl ?_
  refine x_iconst dJ6_bitCount_0f7a4_16 rfl iC_2 ?_
  refine x_iushr dJ6_bitCount_0f7a4_17 rfl ?_
  refine x_ldcw dJ6_bitCount_0f7a4_18 rfl cJ6_266 ?_
  refine x_iand dJ6_bitCount_0f7a4_21 rfl ?_
  refine x_iadd dJ6_bitCount_0f7a4_22 rfl ?_
  refine x_istore_n (i := 0) dJ6_bitCount_0f7a4_23 rfl rfl (by decide) ?_
  refine x_iload_n (i := 0) dJ6_bitCount_0f7a4_24 rfl rfl rfl ?_
  refine x_iload_n (i := 0) dJ6_bitCount_0f7a4_25 rfl rfl rfl ?_
  refine x_iconst dJ6_bitCount_0f7a4_26 rfl iC_4 ?_
  refine x_iushr dJ6_bitCount_0f7a4_27 rfl ?_
  refine x_iadd dJ6_bitCount_0f7a4_28 rfl ?_
  refine x_ldcw dJ6_bitCount_0f7a4_29 rfl cJ6_267 ?_
  refine x_iand dJ6_bitCount_0f7a4_32 rfl ?_
  refine x_istore_n (i := 0) dJ6_bitCount_0f7a4_33 rfl rfl (by decide) ?_
  refine x_iload_n (i := 0) dJ6_bitCount_0f7a4_34 rfl rfl rfl ?_
  refine x_iload_n (i := 0) dJ6_bitCount_0f7a4_35 rfl rfl rfl ?_
  refine x_bipush dJ6_bitCount_0f7a4_36 rfl bC_8 ?_
  refine x_iushr dJ6_bitCount_0f7a4_38 rfl ?_
  refine x_iadd dJ6_bitCount_0f7a4_39 rfl ?_
  refine x_istore_n (i := 0) dJ6_bitCount_0f7a4_40 rfl rfl (by decide) ?_
  refine x_iload_n (i := 0) dJ6_bitCount_0f7a4_41 rfl rfl rfl ?_
  refine x_iload_n (i := 0) dJ6_bitCount_0f7a4_42 rfl rfl rfl ?_
  refine x_bipush dJ6_bitCount_0f7a4_43 rfl bC_16 ?_
  refine x_iushr dJ6_bitCount_0f7a4_45 rfl ?_
  refine x_iadd dJ6_bitCount_0f7a4_46 rfl ?_
  refine x_istore_n (i := 0) dJ6_bitCount_0f7a4_47 rfl rfl (by decide) ?_
  refine x_iload_n (i := 0) dJ6_bitCount_0f7a4_48 rfl rfl rfl ?_
  refine x_bipush dJ6_bitCount_0f7a4_49 rfl bC_63 ?_
  refine x_iand dJ6_bitCount_0f7a4_51 rfl ?_
  have e := bc_eq v hv
  refine x_ireturn dJ6_bitCount_0f7a4_52 rfl rfl ?_
  show Q (some (.int (bc5 (bc4 (bc3 (bc2 (bc1 (nI v))))) &&& nI 63))) h
  rw [e]
  exact K
theorem c_manyUnits {o p : Nat} (hd : 2 ≤ d) (ho : o < 8) (hp8 : p < 8) (K : Q (some (.int (nI (zSh o p (mwN o))))) h) : xCt G l mX2_manyUnitsOfBoth d [.int (nI o), .int (nI p)] h 0 0 Q := by
  refine xCt_of (by decide) (Nat.le_of_ble_eq_true rfl) ?_
  refine x_iload_n (i := 0) dX2_manyUnitsOfBoth_0 rfl rfl rfl ?_
  refine x_callS0 (As := [_]) (d2 := d - 1) dX2_manyUnitsOfBoth_1 rfl kX2_35 okX2_manyWords (by omega) rfl rfl (Nat.le_of_ble_eq_true rfl) (c_manyWords ho ?_)
  refine x_istore_n (i := 2) dX2_manyUnitsOfBoth_4 rfl rfl (by decide) ?_
  refine x_iconst dX2_manyUnitsOfBoth_5 rfl iC_0 ?_
  refine x_istore_n (i := 3) dX2_manyUnitsOfBoth_6 rfl rfl (by decide) ?_
  refine x_iconst dX2_manyUnitsOfBoth_7 rfl iC_0 ?_
  refine x_istore dX2_manyUnitsOfBoth_8 rfl (by decide) ?_
  have hm := mw_le o
  have key := xloop (P := fun i => xWP G l mX2_manyUnitsOfBoth d (zM G Q) 0 0 10 (xls [(0, .int (nI o)), (1, .int (nI p)), (2, .int (nI (mwN o))), (3, .int (nI (zSh o p i))), (4, .int (nI i))]) [] h) (mwN o) (by
    intro i hi ih
    refine x_iload dX2_manyUnitsOfBoth_10 rfl rfl ?_
    refine x_iload_n (i := 2) dX2_manyUnitsOfBoth_12 rfl rfl rfl ?_
    refine x_jc_ge (tgt := 55) dX2_manyUnitsOfBoth_13 rfl rfl (by omega) (by omega) (fun c13 => ?_) (fun c13 => ?_)
    · obtain rfl : i = mwN o := by omega
      refine x_iload_n (i := 3) dX2_manyUnitsOfBoth_55 rfl rfl rfl ?_
      refine x_ireturn dX2_manyUnitsOfBoth_56 rfl rfl ?_
      exact K
    · have hi16 : i < 16 := by omega
      have h2 := cd_lt i hi16
      have h3 := ex_lt _ h2 o ho
      have h4 := bit_le _ h3
      refine x_gets dX2_manyUnitsOfBoth_16 rfl sX2_31 ?_
      refine x_iload dX2_manyUnitsOfBoth_19 rfl rfl ?_
      refine x_sald dX2_manyUnitsOfBoth_21 rfl rfl rfl hi16 (by decide) ?_
      rw [show (List.getD ([0, 255, 15, 240, 51, 204, 195, 60, 85, 170, 165, 90, 153, 102, 105, 150] : List Int32) i 0) = nI (zCode.getD i 0) from cd_eq i hi16]
      refine x_iload_n (i := 0) dX2_manyUnitsOfBoth_22 rfl rfl rfl ?_
      refine x_callS0 (As := [_, _]) (d2 := d - 1) dX2_manyUnitsOfBoth_23 rfl kX2_27 okX2_exchange (by omega) rfl rfl (Nat.le_of_ble_eq_true rfl) (c_exchange h2 ho ?_)
      refine x_istore dX2_manyUnitsOfBoth_26 rfl (by decide) ?_
      refine x_iload dX2_manyUnitsOfBoth_28 rfl rfl ?_
      refine x_callS0 (As := [_]) (d2 := d - 1) dX2_manyUnitsOfBoth_30 rfl kX2_39 okJ6_bitCount_0f7a4 (by omega) rfl rfl (Nat.le_of_ble_eq_true rfl) (c_bitCount h3 ?_)
      refine x_iconst dX2_manyUnitsOfBoth_33 rfl iC_4 ?_
      refine x_jc_gt (tgt := 49) dX2_manyUnitsOfBoth_34 rfl rfl (by omega) (by omega) (fun c34 => ?_) (fun c34 => ?_)
      · refine x_iinc dX2_manyUnitsOfBoth_49 rfl rfl (inc1 _) ?_
        refine x_goto (tgt := 10) dX2_manyUnitsOfBoth_52 rfl ?_
        have e : zSh o p (i + 1) = zSh o p i := by rw [zSh, if_neg (fun z => by omega)]; omega
        refine x_to (ih c13) ⟨rfl, rfl, rfl, ?_, rfl, trivial⟩
        rw [e]
        rfl
      · refine x_iload_n (i := 1) dX2_manyUnitsOfBoth_37 rfl rfl rfl ?_
        refine x_iload dX2_manyUnitsOfBoth_38 rfl rfl ?_
        refine x_callS0 (As := [_, _]) (d2 := d - 1) dX2_manyUnitsOfBoth_40 rfl kX2_44 okX2_mayBeOdd (by omega) rfl rfl (Nat.le_of_ble_eq_true rfl) (c_mayBeOdd (by omega) hp8 h3 (fun z => ?_) (fun z => ?_))
        · refine x_if_eq_f (tgt := 49) dX2_manyUnitsOfBoth_43 rfl rfl nb1 ?_
          refine x_iinc dX2_manyUnitsOfBoth_46 rfl rfl (inc16 _) ?_
          refine x_iinc dX2_manyUnitsOfBoth_49 rfl rfl (inc1 _) ?_
          refine x_goto (tgt := 10) dX2_manyUnitsOfBoth_52 rfl ?_
          have e : zSh o p (i + 1) = zSh o p i + 16 := by rw [zSh, if_pos ⟨c34, z⟩]
          refine x_to (ih c13) ⟨rfl, rfl, rfl, ?_, rfl, trivial⟩
          rw [e]
          rfl
        · refine x_if_eq_t (tgt := 49) dX2_manyUnitsOfBoth_43 rfl nI_0 ?_
          refine x_iinc dX2_manyUnitsOfBoth_49 rfl rfl (inc1 _) ?_
          refine x_goto (tgt := 10) dX2_manyUnitsOfBoth_52 rfl ?_
          have e : zSh o p (i + 1) = zSh o p i := by rw [zSh, if_neg (fun q => by rw [q.2] at z; cases z)]; omega
          refine x_to (ih c13) ⟨rfl, rfl, rfl, ?_, rfl, trivial⟩
          rw [e]
          rfl) 0 (Nat.zero_le _)
  exact x_to key ⟨rfl, rfl, rfl, rfl, rfl, trivial⟩
/-- Math.floorDiv -/
noncomputable def zFd (a b : Int64) : Int64 := @ite _ ((a ^^^ b) < 0 ∧ ¬ a / b * b = a) (Classical.propDecidable _) (a / b - 1) (a / b)
theorem c_floorDiv {a b : Int64} (hb : ¬ b = 0) (K : Q (some (.long (zFd a b))) h) : xCt G l mJ9_floorDiv_f86c9 d [.long a, .long b] h 0 0 Q := by
  refine xCt_ofF pf_floorDiv (Nat.le_of_ble_eq_true rfl) ?_
  refine x_lload_n (i := 0) dJ9_floorDiv_f86c9_0 rfl rfl rfl ?_
  refine x_lload_n (i := 2) dJ9_floorDiv_f86c9_1 rfl rfl rfl ?_
  refine x_ldiv dJ9_floorDiv_f86c9_2 rfl hb ?_
  refine x_lstore dJ9_floorDiv_f86c9_3 rfl (by decide) ?_
  refine x_lload_n (i := 0) dJ9_floorDiv_f86c9_5 rfl rfl rfl ?_
  refine x_lload_n (i := 2) dJ9_floorDiv_f86c9_6 rfl rfl rfl ?_
  refine x_lxor dJ9_floorDiv_f86c9_7 rfl ?_
  refine x_lconst dJ9_floorDiv_f86c9_8 rfl lC_0 ?_
  refine x_lcmp dJ9_floorDiv_f86c9_9 rfl ?_
  refine x_if_ge (tgt := 27) dJ9_floorDiv_f86c9_10 rfl rfl (fun c10 => ?_) (fun c10 => ?_)
  · refine x_lload dJ9_floorDiv_f86c9_27 rfl rfl ?_
    refine x_lreturn dJ9_floorDiv_f86c9_29 rfl ?_
    rw [zFd, if_neg (fun z => by have := (lg_cmp_ge _ _).mp c10; rw [Int64.le_iff_toInt_le] at this; have h2 := z.1; rw [Int64.lt_iff_toInt_lt] at h2; omega)] at K
    exact K
  · refine x_lload dJ9_floorDiv_f86c9_13 rfl rfl ?_
    refine x_lload_n (i := 2) dJ9_floorDiv_f86c9_15 rfl rfl rfl ?_
    refine x_lmul dJ9_floorDiv_f86c9_16 rfl ?_
    refine x_lload_n (i := 0) dJ9_floorDiv_f86c9_17 rfl rfl rfl ?_
    refine x_lcmp dJ9_floorDiv_f86c9_18 rfl ?_
    refine x_if_eq (tgt := 27) dJ9_floorDiv_f86c9_19 rfl rfl (fun c19 => ?_) (fun c19 => ?_)
    · refine x_lload dJ9_floorDiv_f86c9_27 rfl rfl ?_
      refine x_lreturn dJ9_floorDiv_f86c9_29 rfl ?_
      rw [zFd, if_neg (fun z => z.2 ((lg_cmp_eq _ _).mp c19))] at K
      exact K
    · refine x_lload dJ9_floorDiv_f86c9_22 rfl rfl ?_
      refine x_lconst dJ9_floorDiv_f86c9_24 rfl lC_1 ?_
      refine x_lsub dJ9_floorDiv_f86c9_25 rfl ?_
      refine x_lreturn dJ9_floorDiv_f86c9_26 rfl ?_
      rw [zFd, if_pos ⟨by
        have h3 : ¬ (0 : Int64) ≤ (a ^^^ b) := fun z => c10 ((lg_cmp_ge _ _).mpr z)
        rw [Int64.le_iff_toInt_le] at h3
        rw [Int64.lt_iff_toInt_lt]
        omega, fun z => c19 ((lg_cmp_eq _ _).mpr z)⟩] at K
      exact K
/-- the nearest of a parity, and how far it misses -/
noncomputable def zNr (p : Nat) (x n : Int64) : Int64 := 2 * zFd (x - n * (nI p).toInt64 + n - 1) (2 * n) + (nI p).toInt64
noncomputable def zMs (p : Nat) (x n : Int64) : Int64 := (x - n * zNr p x n) * (x - n * zNr p x n)
theorem csF_near {p : Nat} (hp : p < 2) : ((15, p, .ref (16 + p)) : Nat × Nat × Value) ∈ csF := by
  rcases (show p = 0 ∨ p = 1 by omega) with rfl | rfl
  · exact F_15_0
  · exact F_15_1
theorem csF_miss {p : Nat} (hp : p < 2) : ((18, p, .ref (19 + p)) : Nat × Nat × Value) ∈ csF := by
  rcases (show p = 0 ∨ p = 1 by omega) with rfl | rfl
  · exact F_18_0
  · exact F_18_1
theorem csT_near {p : Nat} (hp : p < 2) : csT[16 + p]? = some (1, 8) ∧ csT[19 + p]? = some (1, 8) := by
  rcases (show p = 0 ∨ p = 1 by omega) with rfl | rfl <;> exact ⟨rfl, rfl⟩
theorem c_findNear {p i : Nat} {x n : Int64} (hd : 1 ≤ d) (hC : Cs h) (hp : p < 2) (hi : i < 8) (hn : ¬ 2 * n = 0) (K : ∀ h2, Cs h2 → xSm [16 + p, 19 + p] h h2 → jv h2 (16 + p) = vp_updL (jv h (16 + p)) i (zNr p x n) → jv h2 (19 + p) = vp_updL (jv h (19 + p)) i (zMs p x n) → Q none h2) : xCt G l mX2_findNear d [.ref 14, .int (nI p), .int (nI i), .long x, .long n] h 0 0 Q := by
  have v1 := hC.j (csT_near hp).1
  have v2 := hC.j (csT_near hp).2
  have hC1 := hC.setJ (f := vp_updL (jv h (16 + p)) i (zNr p x n)) v1
  refine xCt_of (by decide) (Nat.le_of_ble_eq_true rfl) ?_
  refine x_ldc2 dX2_findNear_0 rfl cX2_66 ?_
  refine x_lload_n (i := 3) dX2_findNear_3 rfl rfl rfl ?_
  refine x_lload dX2_findNear_4 rfl rfl ?_
  refine x_iload_n (i := 1) dX2_findNear_6 rfl rfl rfl ?_
  refine x_i2l dX2_findNear_7 rfl ?_
  refine x_lmul dX2_findNear_8 rfl ?_
  refine x_lsub dX2_findNear_9 rfl ?_
  refine x_lload dX2_findNear_10 rfl rfl ?_
  refine x_ladd dX2_findNear_12 rfl ?_
  refine x_lconst dX2_findNear_13 rfl lC_1 ?_
  refine x_lsub dX2_findNear_14 rfl ?_
  refine x_ldc2 dX2_findNear_15 rfl cX2_66 ?_
  refine x_lload dX2_findNear_18 rfl rfl ?_
  refine x_lmul dX2_findNear_20 rfl ?_
  refine x_callS0 (As := [_, _]) (d2 := d - 1) dX2_findNear_21 rfl kX2_68 okJ9_floorDiv_f86c9 (by omega) rfl rfl (Nat.le_of_ble_eq_true rfl) (c_floorDiv hn ?_)
  refine x_lmul dX2_findNear_24 rfl ?_
  refine x_iload_n (i := 1) dX2_findNear_25 rfl rfl rfl ?_
  refine x_i2l dX2_findNear_26 rfl ?_
  refine x_ladd dX2_findNear_27 rfl ?_
  refine x_lstore dX2_findNear_28 rfl (by decide) ?_
  refine x_lload_n (i := 3) dX2_findNear_30 rfl rfl rfl ?_
  refine x_lload dX2_findNear_31 rfl rfl ?_
  refine x_lload dX2_findNear_33 rfl rfl ?_
  refine x_lmul dX2_findNear_35 rfl ?_
  refine x_lsub dX2_findNear_36 rfl ?_
  refine x_lstore dX2_findNear_37 rfl (by decide) ?_
  refine x_aload_n (i := 0) dX2_findNear_39 rfl rfl rfl ?_
  refine x_getC dX2_findNear_40 rfl fX2_17 hC rfl F_14_1 ?_
  refine x_iload_n (i := 1) dX2_findNear_43 rfl rfl rfl ?_
  refine x_aaldC (t := 1) dX2_findNear_44 rfl hC rfl (by decide) rfl (by omega) (by decide) (csF_near hp) ?_
  refine x_iload_n (i := 2) dX2_findNear_45 rfl rfl rfl ?_
  refine x_lload dX2_findNear_46 rfl rfl ?_
  refine x_last dX2_findNear_48 rfl (by first | assumption | exact hs_eq | exact hs_ne (by first | assumption | decide | omega) (by first | assumption | exact hs_eq | exact hs_ne (by first | assumption | decide | omega) (by first | assumption | exact hs_eq | exact hs_ne (by first | assumption | decide | omega) (by assumption)))) rfl (by omega) (by decide) ?_
  have v3 := hs_ne (c := (1, 8, xJ (vp_updL (jv h (16 + p)) i (zNr p x n)))) (show 19 + p ≠ 16 + p by omega) v2
  refine x_aload_n (i := 0) dX2_findNear_49 rfl rfl rfl ?_
  refine x_getC dX2_findNear_50 rfl fX2_20 hC1 rfl F_14_2 ?_
  refine x_iload_n (i := 1) dX2_findNear_53 rfl rfl rfl ?_
  refine x_aaldC (t := 1) dX2_findNear_54 rfl hC1 rfl (by decide) rfl (by omega) (by decide) (csF_miss hp) ?_
  refine x_iload_n (i := 2) dX2_findNear_55 rfl rfl rfl ?_
  refine x_lload dX2_findNear_56 rfl rfl ?_
  refine x_lload dX2_findNear_58 rfl rfl ?_
  refine x_lmul dX2_findNear_60 rfl ?_
  refine x_last dX2_findNear_61 rfl v3 rfl (by omega) (by decide) ?_
  refine x_return dX2_findNear_62 rfl ?_
  refine K _ (hC1.setJ v3) xSm.hs2 ?_ ?_
  · rw [jv_n (by omega), jv_hs]
    rfl
  · rw [jv_hs]
    rfl
end NEAR

