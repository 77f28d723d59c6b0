/-! EightParts$Lists: a list grows -/
/-- how many are listed, and the packed ones -/
abbrev gst : Type := Nat × (Nat → Int32)
def vv (i : Nat) : Int32 := nI i - nI 3
def sqN (i : Nat) : Nat := ([9, 4, 1, 0, 1, 4, 9] : List Nat).getD i 0
def zFit (ow : Nat → Int32) (part : Nat) (w : Int32) (i : Nat) : Int32 := if vv i &&& nI 1 = 0 then w &&& (ow part ^^^ (-1)) else w &&& ow part
def zGr (N : Nat) (ow : Nat → Int32) : Nat → Nat → Int32 → Int32 → gst → gst
  | 0, rest, _, p, s => if rest = 0 ∧ s.1 < N then (s.1 + 1, upd s.2 s.1 p) else s
  | k + 1, rest, w, p, s => (List.range 7).foldl (fun s i => if sqN i ≤ rest ∧ ¬ zFit ow (7 - k) w i = 0 then zGr N ow k (rest - sqN i) (zFit ow (7 - k) w i) (p <<< (nI 4 &&& 31) ||| (vv i + nI 4)) s else s) s
def zGp (N : Nat) (ow : Nat → Int32) (k rest : Nat) (w p : Int32) (s : gst) (n : Nat) : gst := (List.range n).foldl (fun s i => if sqN i ≤ rest ∧ ¬ zFit ow (7 - k) w i = 0 then zGr N ow k (rest - sqN i) (zFit ow (7 - k) w i) (p <<< (nI 4 &&& 31) ||| (vv i + nI 4)) s else s) s
theorem zGp_s (N : Nat) (ow : Nat → Int32) (k rest : Nat) (w p : Int32) (s : gst) (n : Nat) : zGp N ow k rest w p s (n + 1) = if sqN n ≤ rest ∧ ¬ zFit ow (7 - k) w n = 0 then zGr N ow k (rest - sqN n) (zFit ow (7 - k) w n) (p <<< (nI 4 &&& 31) ||| (vv n + nI 4)) (zGp N ow k rest w p s n) else zGp N ow k rest w p s n := by
  unfold zGp
  rw [List.range_succ, List.foldl_append]
  rfl
theorem vv_sq : ∀ i, i < 7 → vv i * vv i = nI (sqN i) := by decide +kernel
theorem vv_gt : ∀ i, i < 7 → ¬ nI 3 < vv i := by decide +kernel
theorem sq_le : ∀ i, i < 7 → sqN i ≤ 9 := by decide +kernel
theorem vv_7 : nI 3 < vv 7 := by decide
theorem vv_s : ∀ i, i < 7 → vv i + Int32.ofInt 1 = vv (i + 1) := by decide +kernel
theorem zGr_le {N : Nat} {ow : Nat → Int32} : ∀ k rest w p (s : gst), s.1 ≤ N → (zGr N ow k rest w p s).1 ≤ N := by
  intro k
  induction k with
  | zero =>
    intro rest w p s hs
    rw [zGr]
    split
    · next q => exact q.2
    · exact hs
  | succ k ih =>
    intro rest w p s hs
    have : ∀ n, (zGp N ow k rest w p s n).1 ≤ N := by
      intro n
      induction n with
      | zero => exact hs
      | succ n ihn =>
        rw [zGp_s]
        split
        · exact ih _ _ _ _ ihn
        · exact ihn
    exact this 7
theorem zGp_le {N : Nat} {ow : Nat → Int32} {k rest : Nat} {w p : Int32} {s : gst} (hs : s.1 ≤ N) : ∀ n, (zGp N ow k rest w p s n).1 ≤ N := by
  intro n
  induction n with
  | zero => exact hs
  | succ n ihn =>
    rw [zGp_s]
    split
    · exact zGr_le _ _ _ _ _ ihn
    · exact ihn
def lsR (h0 h : xH) (r N norm : Nat) (s : gst) : Prop := Cs h ∧ xSm [28, r] h0 h ∧ iv h 28 norm = nI s.1 ∧ (∀ j, j ≠ norm → iv h 28 j = iv h0 28 j) ∧ h.1 r = (0, N, xI s.2)
section LISTS
variable {G : xG} {l : Launch}
theorem c_grow {h0 : xH} {r N norm : Nat} {rw0 : Nat → Nat} {ow : Nat → Int32} (hr : 134 ≤ r) (hN : N ≤ 10000) (hnm : norm < 4) (h23 : h0.1 23 = (4, 4, xP rw0)) (hrw : rw0 norm = r) (h30 : h0.1 30 = (0, 8, xI ow)) :
    ∀ k, k ≤ 8 → ∀ (d : Nat) (h : xH) (rest : Nat) (w p : Int32) (s : gst) (Q : Option Value → xH → Prop), k ≤ d → rest ≤ 100 → s.1 ≤ N → lsR h0 h r N norm s → (∀ h2, lsR h0 h2 r N norm (zGr N ow k rest w p s) → Q none h2) → xCt G l mX4_grow d [.ref 22, .int (nI norm), .int (nI (8 - k)), .int (nI rest), .int w, .int p] h 0 0 Q := by
  intro k
  induction k with
  | zero =>
    intro hk d h rest w p s Q hd hrest hs hl K
    obtain ⟨hC, hS, e1, e2, e3⟩ := hl
    have v28 := hC.v (a := 28) rfl
    have f23 : h.1 23 = (4, 4, xP rw0) := (hS.2 23 (by simp; omega)).trans h23
    subst hrw
    refine xCt_of (by decide) (Nat.le_of_ble_eq_true rfl) ?_
    rw [zGr] at K
    refine x_iload_n (i := 2) dX4_grow_0 rfl rfl rfl ?_
    refine x_bipush dX4_grow_1 rfl bC_8 ?_
    refine x_jc_lt (tgt := 47) dX4_grow_3 rfl rfl (by omega) (by omega) (fun c3 => ?_) (fun c3 => ?_)
    · omega
    refine x_iload_n (i := 3) dX4_grow_6 rfl rfl rfl ?_
    refine x_if_ne (tgt := 46) dX4_grow_7 rfl rfl (fun c7 => ?_) (fun c7 => ?_)
    · rw [if_neg (fun z => c7 (by rw [z.1]; exact nI_0))] at K
      refine x_return dX4_grow_46 rfl ?_
      exact K h ⟨hC, hS, e1, e2, e3⟩
    · have hz : rest = 0 := (nI_eq (by omega) (by decide)).mp (c7.trans nI_0.symm)
      refine x_aload_n (i := 0) dX4_grow_10 rfl rfl rfl ?_
      refine x_getC dX4_grow_11 rfl fX4_16 hC rfl F_22_2 ?_
      refine x_iload_n (i := 1) dX4_grow_14 rfl rfl rfl ?_
      refine x_iald dX4_grow_15 rfl (by first | assumption | exact hs_eq | exact hs_ne (by first | assumption | decide | omega) (by first | assumption | exact hs_eq | exact hs_ne (by first | assumption | decide | omega) (by first | assumption | exact hs_eq | exact hs_ne (by first | assumption | decide | omega) (by assumption)))) rfl (by omega) (by decide) ?_
      rw [e1]
      refine x_aload_n (i := 0) dX4_grow_16 rfl rfl rfl ?_
      refine x_getC dX4_grow_17 rfl fX4_11 hC rfl F_22_1 ?_
      refine x_iload_n (i := 1) dX4_grow_20 rfl rfl rfl ?_
      refine x_aald (t := 0)  dX4_grow_21 rfl f23 (by decide) rfl (by omega) (by decide) ?_
      refine x_alen dX4_grow_22 rfl e3 (by decide) rfl ?_
      refine x_jc_ge (tgt := 46) dX4_grow_23 rfl rfl (by omega) (by omega) (fun c23 => ?_) (fun c23 => ?_)
      · rw [if_neg (fun z => by omega)] at K
        refine x_return dX4_grow_46 rfl ?_
        exact K h ⟨hC, hS, e1, e2, e3⟩
      · rw [if_pos ⟨hz, c23⟩] at K
        have hC1 := hC.setI (f := upd (iv h 28) norm (nI (s.1 + 1))) v28 (Or.inl rfl) (by decide)
        refine x_aload_n (i := 0) dX4_grow_26 rfl rfl rfl ?_
        refine x_getC dX4_grow_27 rfl fX4_11 hC rfl F_22_1 ?_
        refine x_iload_n (i := 1) dX4_grow_30 rfl rfl rfl ?_
        refine x_aald (t := 0)  dX4_grow_31 rfl f23 (by decide) rfl (by omega) (by decide) ?_
        refine x_aload_n (i := 0) dX4_grow_32 rfl rfl rfl ?_
        refine x_getC dX4_grow_33 rfl fX4_16 hC rfl F_22_2 ?_
        refine x_iload_n (i := 1) dX4_grow_36 rfl rfl rfl ?_
        refine x_dup2 dX4_grow_37 rfl rfl rfl ?_
        refine x_iald dX4_grow_38 rfl (by first | assumption | exact hs_eq | exact hs_ne (by first | assumption | decide | omega) (by first | assumption | exact hs_eq | exact hs_ne (by first | assumption | decide | omega) (by first | assumption | exact hs_eq | exact hs_ne (by first | assumption | decide | omega) (by assumption)))) rfl (by omega) (by decide) ?_
        rw [e1]
        refine x_dup_x2 dX4_grow_39 rfl rfl rfl rfl ?_
        refine x_iconst dX4_grow_40 rfl iC_1 ?_
        refine x_iadd dX4_grow_41 rfl ?_
        rw [show nI s.1 + nI 1 = nI (s.1 + 1) from nI_add _ 1]
        refine x_iast dX4_grow_42 rfl (by first | assumption | exact hs_eq | exact hs_ne (by first | assumption | decide | omega) (by first | assumption | exact hs_eq | exact hs_ne (by first | assumption | decide | omega) (by first | assumption | exact hs_eq | exact hs_ne (by first | assumption | decide | omega) (by assumption)))) rfl (by omega) (by decide) ?_
        refine x_iload dX4_grow_43 rfl rfl ?_
        refine x_iast dX4_grow_45 rfl (hs_ne (by omega) e3) rfl (by omega) (by omega) ?_
        refine x_return dX4_grow_46 rfl ?_
        refine K _ ⟨hC1.setI (hs_ne (by omega) e3) (Or.inl rfl) (by omega), (hS.tr xSm.hs2).sub (by simp), ?_, fun j hj => ?_, hs_eq⟩
        · rw [iv_n (by omega), iv_hs]
          unfold upd
          rw [if_pos rfl]
        · rw [iv_n (by omega), iv_hs]
          unfold upd
          rw [if_neg hj]
          exact e2 j hj
  | succ k ih =>
    intro hk d h rest w p s Q hd hrest hs hl K
    refine xCt_of (by decide) (Nat.le_of_ble_eq_true rfl) ?_
    refine x_iload_n (i := 2) dX4_grow_0 rfl rfl rfl ?_
    refine x_bipush dX4_grow_1 rfl bC_8 ?_
    refine x_jc_lt (tgt := 47) dX4_grow_3 rfl rfl (by omega) (by omega) (fun c3 => ?_) (fun c3 => ?_)
    · refine x_bipush dX4_grow_47 rfl bC_m3 ?_
      refine x_istore dX4_grow_49 rfl (by decide) ?_
      have key := xloop (P := fun i => ∀ h1, lsR h0 h1 r N norm (zGp N ow k rest w p s i) → xWP G l mX4_grow d (zM G Q) 0 0 51 (xls [(0, .ref 22), (1, .int (nI norm)), (2, .int (nI (8 - (k + 1)))), (3, .int (nI rest)), (4, .int w), (5, .int p), (6, .int (vv i))]) [] h1) 7 (by
        intro i hi ihi h1 hl1
        rcases Nat.lt_or_ge i 7 with hi7 | hi7
        · obtain ⟨hC, hS, e1, e2, e3⟩ := hl1
          have f30 : h1.1 30 = (0, 8, xI ow) := (hS.2 30 (by simp; omega)).trans h30
          have ep : ow (8 - (k + 1)) = ow (7 - k) := by rw [show 8 - (k + 1) = 7 - k by omega]
          have w87 : ∀ ft, ft = zFit ow (7 - k) w i → xWP G l mX4_grow d (zM G Q) 0 0 87 (xls [(0, .ref 22), (1, .int (nI norm)), (2, .int (nI (8 - (k + 1)))), (3, .int (nI rest)), (4, .int w), (5, .int p), (6, .int (vv i))]) [.int ft] h1 := by
            intro ft hft
            subst hft
            have es := zGp_s N ow k rest w p s i
            have sq9 := sq_le i hi7
            have nxt : ∀ h2 ft, lsR h0 h2 r N norm (zGp N ow k rest w p s (i + 1)) → xWP G l mX4_grow d (zM G Q) 0 0 129 (xls [(0, .ref 22), (1, .int (nI norm)), (2, .int (nI (8 - (k + 1)))), (3, .int (nI rest)), (4, .int w), (5, .int p), (6, .int (vv i)), (7, .int ft)]) [] h2 := by
              intro h2 ft hl2
              refine x_iinc dX4_grow_129 rfl rfl (vv_s i hi7) ?_
              refine x_goto (tgt := 51) dX4_grow_132 rfl ?_
              exact x_to (ihi hi7 h2 hl2) ⟨rfl, rfl, rfl, rfl, rfl, rfl, rfl, trivial⟩
            refine x_istore dX4_grow_87 rfl (by decide) ?_
            refine x_iload dX4_grow_89 rfl rfl ?_
            refine x_iload dX4_grow_91 rfl rfl ?_
            refine x_imul dX4_grow_93 rfl ?_
            rw [vv_sq i hi7]
            refine x_iload_n (i := 3) dX4_grow_94 rfl rfl rfl ?_
            refine x_jc_gt (tgt := 129) dX4_grow_95 rfl rfl (by omega) (by omega) (fun c95 => ?_) (fun c95 => ?_)
            · rw [if_neg (fun z => by omega)] at es
              exact x_to (nxt h1 _ (by rw [es]; exact ⟨hC, hS, e1, e2, e3⟩)) ⟨rfl, rfl, rfl, rfl, rfl, rfl, rfl, rfl, trivial⟩
            · refine x_iload dX4_grow_98 rfl rfl ?_
              refine x_if_eq (tgt := 129) dX4_grow_100 rfl rfl (fun c100 => ?_) (fun c100 => ?_)
              · rw [if_neg (fun z => z.2 c100)] at es
                exact x_to (nxt h1 _ (by rw [es]; exact ⟨hC, hS, e1, e2, e3⟩)) ⟨rfl, rfl, rfl, rfl, rfl, rfl, rfl, rfl, trivial⟩
              · rw [if_pos ⟨c95, c100⟩] at es
                refine x_aload_n (i := 0) dX4_grow_103 rfl rfl rfl ?_
                refine x_iload_n (i := 1) dX4_grow_104 rfl rfl rfl ?_
                refine x_iload_n (i := 2) dX4_grow_105 rfl rfl rfl ?_
                refine x_iconst dX4_grow_106 rfl iC_1 ?_
                refine x_iadd dX4_grow_107 rfl ?_
                refine x_iload_n (i := 3) dX4_grow_108 rfl rfl rfl ?_
                refine x_iload dX4_grow_109 rfl rfl ?_
                refine x_iload dX4_grow_111 rfl rfl ?_
                refine x_imul dX4_grow_113 rfl ?_
                refine x_isub dX4_grow_114 rfl ?_
                refine x_iload dX4_grow_115 rfl rfl ?_
                refine x_iload dX4_grow_117 rfl rfl ?_
                refine x_iconst dX4_grow_119 rfl iC_4 ?_
                refine x_ishl dX4_grow_120 rfl ?_
                refine x_iload dX4_grow_121 rfl rfl ?_
                refine x_iconst dX4_grow_123 rfl iC_4 ?_
                refine x_iadd dX4_grow_124 rfl ?_
                refine x_ior dX4_grow_125 rfl ?_
                rw [vv_sq i hi7, show nI rest - nI (sqN i) = nI (rest - sqN i) from pk_sub c95, show nI (8 - (k + 1)) + nI 1 = nI (8 - k) by rw [nI_add]; congr 1; omega]
                refine x_callV0 (ci := 4) (b := 22) (As := [_, _, _, _, _]) (d2 := d - 1) dX4_grow_126 rfl kX4_75 okX4_grow (hC.o rfl) (fun q hq => by cases hq; rfl) (by omega) rfl rfl (Nat.le_of_ble_eq_true rfl) (ih (by omega) (d - 1) h1 (rest - sqN i) (zFit ow (7 - k) w i) (p <<< (nI 4 &&& 31) ||| (vv i + nI 4)) (zGp N ow k rest w p s i) _ (by omega) (by omega) (zGp_le hs i) ⟨hC, hS, e1, e2, e3⟩ (fun h2 hl2 => ?_))
                rw [← es] at hl2
                exact x_to (nxt h2 _ hl2) ⟨rfl, rfl, rfl, rfl, rfl, rfl, rfl, rfl, trivial⟩
          refine x_iload dX4_grow_51 rfl rfl ?_
          refine x_iconst dX4_grow_53 rfl iC_3 ?_
          refine x_ic_gt_f (tgt := 135) dX4_grow_54 rfl rfl (vv_gt i hi7) ?_
          refine x_iload dX4_grow_57 rfl rfl ?_
          refine x_iconst dX4_grow_59 rfl iC_1 ?_
          refine x_iand dX4_grow_60 rfl ?_
          refine x_if_eq (tgt := 76) dX4_grow_61 rfl rfl (fun c61 => ?_) (fun c61 => ?_)
          · refine x_iload dX4_grow_76 rfl rfl ?_
            refine x_aload_n (i := 0) dX4_grow_78 rfl rfl rfl ?_
            refine x_getC dX4_grow_79 rfl fX4_23 hC rfl F_22_4 ?_
            refine x_iload_n (i := 2) dX4_grow_82 rfl rfl rfl ?_
            refine x_iald dX4_grow_83 rfl (by first | assumption | exact hs_eq | exact hs_ne (by first | assumption | decide | omega) (by first | assumption | exact hs_eq | exact hs_ne (by first | assumption | decide | omega) (by first | assumption | exact hs_eq | exact hs_ne (by first | assumption | decide | omega) (by assumption)))) rfl (by omega) (by decide) ?_
            refine x_iconst dX4_grow_84 rfl iC_m1 ?_
            refine x_ixor dX4_grow_85 rfl ?_
            refine x_iand dX4_grow_86 rfl ?_
            refine w87 _ ?_
            rw [zFit, if_pos c61, ep]
          · refine x_iload dX4_grow_64 rfl rfl ?_
            refine x_aload_n (i := 0) dX4_grow_66 rfl rfl rfl ?_
            refine x_getC dX4_grow_67 rfl fX4_23 hC rfl F_22_4 ?_
            refine x_iload_n (i := 2) dX4_grow_70 rfl rfl rfl ?_
            refine x_iald dX4_grow_71 rfl (by first | assumption | exact hs_eq | exact hs_ne (by first | assumption | decide | omega) (by first | assumption | exact hs_eq | exact hs_ne (by first | assumption | decide | omega) (by first | assumption | exact hs_eq | exact hs_ne (by first | assumption | decide | omega) (by assumption)))) rfl (by omega) (by decide) ?_
            refine x_iand dX4_grow_72 rfl ?_
            refine x_goto (tgt := 87) dX4_grow_73 rfl ?_
            refine w87 _ ?_
            rw [zFit, if_neg c61, ep]
        · obtain rfl : i = 7 := by omega
          refine x_iload dX4_grow_51 rfl rfl ?_
          refine x_iconst dX4_grow_53 rfl iC_3 ?_
          refine x_ic_gt_t (tgt := 135) dX4_grow_54 rfl vv_7 ?_
          refine x_return dX4_grow_135 rfl ?_
          exact K h1 hl1) 0 (Nat.zero_le _)
      exact x_to (key h hl) ⟨rfl, rfl, rfl, rfl, rfl, rfl, rfl, trivial⟩
    · omega
end LISTS

