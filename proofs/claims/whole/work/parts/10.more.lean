/-! ===== more rules: cells in locals, booleans, shapes, Math ===== -/
def bi (p : Prop) [Decidable p] : Int := if p then 1 else 0
theorem bi_01 {p : Prop} [Decidable p] : bi p = 0 ∨ bi p = 1 := by unfold bi; split <;> simp
theorem bi_t {p : Prop} [Decidable p] (h : p) : bi p = 1 := if_pos h
theorem bi_f {p : Prop} [Decidable p] (h : ¬ p) : bi p = 0 := if_neg h
theorem bi_1 {p : Prop} [Decidable p] : bi p = 1 ↔ p := by unfold bi; split <;> simp [*]
theorem bi_0 {p : Prop} [Decidable p] : bi p = 0 ↔ ¬ p := by unfold bi; split <;> simp [*]
theorem bi_r {p : Prop} [Decidable p] : -2147483648 ≤ bi p ∧ bi p ≤ 2147483647 := by unfold bi; split <;> decide
theorem bi_c {p q : Prop} [Decidable p] [Decidable q] (h : p ↔ q) : bi p = bi q := by unfold bi; simp [h]
section MORE
variable {G : Gx} {E : En} {cc : ByteArray} {nL : Nat} {own : String} {ret : Option FieldType} {d : Nat} {post : Option Value → Hp → Prop} {pc : Nat} {ls : List (Nat × Value)} {st : List Value} {h : Hp}
theorem wp_ifb_eq {p : Prop} [Decidable p] {off : Int} {tgt : Nat} (C : Cx G E cc nL own ret d) (hd : decode cc pc = .ok (.ifCond .eq off, 3)) (ht : (pc : Int) + off = (tgt : Int)) (kt : ¬ p → Wp G E nL post tgt ls st h) (kf : p → Wp G E nL post (pc + 3) ls st h) : Wp G E nL post pc ls (iv (bi p) :: st) h :=
  wp_if_eq bi_r C hd ht (fun z => kt (bi_0.mp z)) (fun z => kf (Decidable.byContradiction fun w => z (bi_0.mpr w)))
theorem wp_ifb_ne {p : Prop} [Decidable p] {off : Int} {tgt : Nat} (C : Cx G E cc nL own ret d) (hd : decode cc pc = .ok (.ifCond .ne off, 3)) (ht : (pc : Int) + off = (tgt : Int)) (kt : p → Wp G E nL post tgt ls st h) (kf : ¬ p → Wp G E nL post (pc + 3) ls st h) : Wp G E nL post pc ls (iv (bi p) :: st) h :=
  wp_if_ne bi_r C hd ht (fun z => kt (Decidable.byContradiction fun w => z (bi_0.mpr w))) (fun z => kf (bi_0.mp z))
theorem wp_aloadR_n {kk : Fin 4} {i : Nat} {x : Nat} (j : Nat) (C : Cx G E cc nL own ret d) (hd : decode cc pc = .ok (.aload_n kk, 1)) (hi : (kk : Nat) = i) (hk : ls[j]? = some (i, rv E x)) (k : Wp G E nL post (pc + 1) ls (rv E x :: st) h) : Wp G E nL post pc ls st h := wp_aload_n j C hd hi hk k
theorem wp_aloadR {i : Nat} {x : Nat} (j : Nat) (C : Cx G E cc nL own ret d) (hd : decode cc pc = .ok (.aload i, 2)) (hk : ls[j]? = some (i, rv E x)) (k : Wp G E nL post (pc + 2) ls (rv E x :: st) h) : Wp G E nL post pc ls st h := wp_aload j C hd hk k
theorem wp_astoreR_n {kk : Fin 4} {i : Nat} {x : Nat} {ls' : List (Nat × Value)} (ks : List Nat) (C : Cx G E cc nL own ret d) (hd : decode cc pc = .ok (.astore_n kk, 1)) (hi : (kk : Nat) = i) (hn : i < nL) (hl' : lv_pick ((i, rv E x) :: ls.filter (fun q => !(q.1 == i) && !(q.1 + 1 == i && q.2.category == 2))) ks = ls') (k : Wp G E nL post (pc + 1) ls' st h) : Wp G E nL post pc ls (rv E x :: st) h := wp_astore_n ks C hd hi hn hl' k
theorem wp_astoreR {i : Nat} {x : Nat} {ls' : List (Nat × Value)} (ks : List Nat) (C : Cx G E cc nL own ret d) (hd : decode cc pc = .ok (.astore i, 2)) (hn : i < nL) (hl' : lv_pick ((i, rv E x) :: ls.filter (fun q => !(q.1 == i) && !(q.1 + 1 == i && q.2.category == 2))) ks = ls') (k : Wp G E nL post (pc + 2) ls' st h) : Wp G E nL post pc ls (rv E x :: st) h := wp_astore ks C hd hn hl' k
theorem wp_max {a b : Int} {idx : Nat} (ha : -2147483648 ≤ a ∧ a ≤ 2147483647) (hb : -2147483648 ≤ b ∧ b ≤ 2147483647) (hl : Cond.methodLink own idx Lib.Math.max.name ∈ wsG) (hs : Cond.static Lib.Math.max.name ∈ wsG) (hi : Cond.initialized "java/lang/Math" ∈ wsG) (hc : Cond.code Lib.Math.max.name Lib.Math.max.code 2 (some .int) ∈ wsG) (hw : (st.map fun v => v.category).sum ≤ 40) (hd1 : 1 ≤ d) (C : Cx G E cc nL own ret d) (hd : decode cc pc = .ok (.invokestatic idx, 3)) (k : Wp G E nL post (pc + 3) ls (iv (max a b) :: st) h) : Wp G E nL post pc ls (iv b :: iv a :: st) h := by
  intro H locs la hP hS hL
  have q := k H locs la hP hS hL
  have e : iv (max a b) = .int (if Int32.ofInt a < Int32.ofInt b then Int32.ofInt b else Int32.ofInt a) := by
    unfold iv
    by_cases z : a < b
    · rw [if_pos ((i_lt ha hb).mpr z), Int.max_eq_right (by omega)]
    · rw [if_neg (fun w => z ((i_lt ha hb).mp w)), Int.max_eq_left (by omega)]
  rw [e] at q
  have hR := C.2.2.2.2.2.2.2.2
  exact va_mmax C.1 C.2.1 (by rw [C.2.2.1]; exact hL.1.symm) C.2.2.2.1 (C.2.2.2.2.1 _ hl) (C.2.2.2.2.1 _ hs) (C.2.2.2.2.1 _ hi) (C.2.2.2.2.1 _ hc) (Nat.le_trans hd1 hR.1) (by have := hR.2.1; omega) hR.2.2.1 hR.2.2.2 hd q
theorem wp_min {a b : Int} {idx : Nat} (ha : -2147483648 ≤ a ∧ a ≤ 2147483647) (hb : -2147483648 ≤ b ∧ b ≤ 2147483647) (hl : Cond.methodLink own idx Lib.Math.min.name ∈ wsG) (hs : Cond.static Lib.Math.min.name ∈ wsG) (hi : Cond.initialized "java/lang/Math" ∈ wsG) (hc : Cond.code Lib.Math.min.name Lib.Math.min.code 2 (some .int) ∈ wsG) (hw : (st.map fun v => v.category).sum ≤ 40) (hd1 : 1 ≤ d) (C : Cx G E cc nL own ret d) (hd : decode cc pc = .ok (.invokestatic idx, 3)) (k : Wp G E nL post (pc + 3) ls (iv (min a b) :: st) h) : Wp G E nL post pc ls (iv b :: iv a :: st) h := by
  intro H locs la hP hS hL
  have q := k H locs la hP hS hL
  have e : iv (min a b) = .int (if Int32.ofInt b < Int32.ofInt a then Int32.ofInt b else Int32.ofInt a) := by
    unfold iv
    by_cases z : b < a
    · rw [if_pos ((i_lt hb ha).mpr z), Int.min_eq_right (by omega)]
    · rw [if_neg (fun w => z ((i_lt hb ha).mp w)), Int.min_eq_left (by omega)]
  rw [e] at q
  have hR := C.2.2.2.2.2.2.2.2
  exact va_mmin C.1 C.2.1 (by rw [C.2.2.1]; exact hL.1.symm) C.2.2.2.1 (C.2.2.2.2.1 _ hl) (C.2.2.2.2.1 _ hs) (C.2.2.2.2.1 _ hi) (C.2.2.2.2.1 _ hc) (Nat.le_trans hd1 hR.1) (by have := hR.2.1; omega) hR.2.2.1 hR.2.2.2 hd q
end MORE
theorem sh_0 : shL[0]? = some (0, 11, 0, [some 1, some 6, some 8, some 21, some 28, some 29, some 52, some 97, some 99, some 123, some 125]) := rfl
theorem sh_1 : shL[1]? = some (0, 4, 0, [some 2, some 3, some 4, some 5, none, none]) := rfl
theorem sh_2 : shL[2]? = some (2, 20, 0, []) := rfl
theorem sh_3 : shL[3]? = some (2, 20, 0, []) := rfl
theorem sh_4 : shL[4]? = some (2, 20, 0, []) := rfl
theorem sh_5 : shL[5]? = some (2, 20, 0, []) := rfl
theorem sh_6 : shL[6]? = some (0, 8, 0, [some 7, none]) := rfl
theorem sh_7 : shL[7]? = some (1, 200, 0, []) := rfl
theorem sh_8 : shL[8]? = some (0, 6, 0, [some 9, some 10, none, some 6, none, none, none]) := rfl
theorem sh_9 : shL[9]? = some (1, 10, 0, []) := rfl
theorem sh_10 : shL[10]? = some (5, 10, 11, []) := rfl
theorem sh_11 : shL[11]? = some (2, 4, 0, []) := rfl
theorem sh_12 : shL[12]? = some (2, 4, 0, []) := rfl
theorem sh_13 : shL[13]? = some (2, 4, 0, []) := rfl
theorem sh_14 : shL[14]? = some (2, 4, 0, []) := rfl
theorem sh_15 : shL[15]? = some (2, 4, 0, []) := rfl
theorem sh_16 : shL[16]? = some (2, 4, 0, []) := rfl
theorem sh_17 : shL[17]? = some (2, 4, 0, []) := rfl
theorem sh_18 : shL[18]? = some (2, 4, 0, []) := rfl
theorem sh_19 : shL[19]? = some (2, 4, 0, []) := rfl
theorem sh_20 : shL[20]? = some (2, 4, 0, []) := rfl
theorem sh_21 : shL[21]? = some (0, 1, 0, [some 22, none, some 23, some 26]) := rfl
theorem sh_22 : shL[22]? = some (1, 12, 0, []) := rfl
theorem sh_23 : shL[23]? = some (4, 2, 24, []) := rfl
theorem sh_24 : shL[24]? = some (1, 12, 0, []) := rfl
theorem sh_25 : shL[25]? = some (1, 12, 0, []) := rfl
theorem sh_26 : shL[26]? = some (1, 2, 0, []) := rfl
theorem sh_27 : shL[27]? = some (1, 6561, 0, []) := rfl
theorem sh_28 : shL[28]? = some (0, 3, 0, [some 1, some 27, none, none]) := rfl
theorem sh_29 : shL[29]? = some (0, 7, 0, [some 1, some 30]) := rfl
theorem sh_30 : shL[30]? = some (4, 21, 31, []) := rfl
theorem sh_31 : shL[31]? = some (1, 10, 0, []) := rfl
theorem sh_32 : shL[32]? = some (1, 10, 0, []) := rfl
theorem sh_33 : shL[33]? = some (1, 10, 0, []) := rfl
theorem sh_34 : shL[34]? = some (1, 10, 0, []) := rfl
theorem sh_35 : shL[35]? = some (1, 10, 0, []) := rfl
theorem sh_36 : shL[36]? = some (1, 10, 0, []) := rfl
theorem sh_37 : shL[37]? = some (1, 10, 0, []) := rfl
theorem sh_38 : shL[38]? = some (1, 10, 0, []) := rfl
theorem sh_39 : shL[39]? = some (1, 10, 0, []) := rfl
theorem sh_40 : shL[40]? = some (1, 10, 0, []) := rfl
theorem sh_41 : shL[41]? = some (1, 10, 0, []) := rfl
theorem sh_42 : shL[42]? = some (1, 10, 0, []) := rfl
theorem sh_43 : shL[43]? = some (1, 10, 0, []) := rfl
theorem sh_44 : shL[44]? = some (1, 10, 0, []) := rfl
theorem sh_45 : shL[45]? = some (1, 10, 0, []) := rfl
theorem sh_46 : shL[46]? = some (1, 10, 0, []) := rfl
theorem sh_47 : shL[47]? = some (1, 10, 0, []) := rfl
theorem sh_48 : shL[48]? = some (1, 10, 0, []) := rfl
theorem sh_49 : shL[49]? = some (1, 10, 0, []) := rfl
theorem sh_50 : shL[50]? = some (1, 10, 0, []) := rfl
theorem sh_51 : shL[51]? = some (1, 10, 0, []) := rfl
theorem sh_52 : shL[52]? = some (0, 5, 0, [some 1, some 53, some 75]) := rfl
theorem sh_53 : shL[53]? = some (4, 21, 54, []) := rfl
theorem sh_54 : shL[54]? = some (1, 10, 0, []) := rfl
theorem sh_55 : shL[55]? = some (1, 10, 0, []) := rfl
theorem sh_56 : shL[56]? = some (1, 10, 0, []) := rfl
theorem sh_57 : shL[57]? = some (1, 10, 0, []) := rfl
theorem sh_58 : shL[58]? = some (1, 10, 0, []) := rfl
theorem sh_59 : shL[59]? = some (1, 10, 0, []) := rfl
theorem sh_60 : shL[60]? = some (1, 10, 0, []) := rfl
theorem sh_61 : shL[61]? = some (1, 10, 0, []) := rfl
theorem sh_62 : shL[62]? = some (1, 10, 0, []) := rfl
theorem sh_63 : shL[63]? = some (1, 10, 0, []) := rfl
theorem sh_64 : shL[64]? = some (1, 10, 0, []) := rfl
theorem sh_65 : shL[65]? = some (1, 10, 0, []) := rfl
theorem sh_66 : shL[66]? = some (1, 10, 0, []) := rfl
theorem sh_67 : shL[67]? = some (1, 10, 0, []) := rfl
theorem sh_68 : shL[68]? = some (1, 10, 0, []) := rfl
theorem sh_69 : shL[69]? = some (1, 10, 0, []) := rfl
theorem sh_70 : shL[70]? = some (1, 10, 0, []) := rfl
theorem sh_71 : shL[71]? = some (1, 10, 0, []) := rfl
theorem sh_72 : shL[72]? = some (1, 10, 0, []) := rfl
theorem sh_73 : shL[73]? = some (1, 10, 0, []) := rfl
theorem sh_74 : shL[74]? = some (1, 10, 0, []) := rfl
theorem sh_75 : shL[75]? = some (5, 21, 76, []) := rfl
theorem sh_76 : shL[76]? = some (2, 10, 0, []) := rfl
theorem sh_77 : shL[77]? = some (2, 10, 0, []) := rfl
theorem sh_78 : shL[78]? = some (2, 10, 0, []) := rfl
theorem sh_79 : shL[79]? = some (2, 10, 0, []) := rfl
theorem sh_80 : shL[80]? = some (2, 10, 0, []) := rfl
theorem sh_81 : shL[81]? = some (2, 10, 0, []) := rfl
theorem sh_82 : shL[82]? = some (2, 10, 0, []) := rfl
theorem sh_83 : shL[83]? = some (2, 10, 0, []) := rfl
theorem sh_84 : shL[84]? = some (2, 10, 0, []) := rfl
theorem sh_85 : shL[85]? = some (2, 10, 0, []) := rfl
theorem sh_86 : shL[86]? = some (2, 10, 0, []) := rfl
theorem sh_87 : shL[87]? = some (2, 10, 0, []) := rfl
theorem sh_88 : shL[88]? = some (2, 10, 0, []) := rfl
theorem sh_89 : shL[89]? = some (2, 10, 0, []) := rfl
theorem sh_90 : shL[90]? = some (2, 10, 0, []) := rfl
theorem sh_91 : shL[91]? = some (2, 10, 0, []) := rfl
theorem sh_92 : shL[92]? = some (2, 10, 0, []) := rfl
theorem sh_93 : shL[93]? = some (2, 10, 0, []) := rfl
theorem sh_94 : shL[94]? = some (2, 10, 0, []) := rfl
theorem sh_95 : shL[95]? = some (2, 10, 0, []) := rfl
theorem sh_96 : shL[96]? = some (2, 10, 0, []) := rfl
theorem sh_97 : shL[97]? = some (0, 10, 0, [some 98, none, none, none, none, none]) := rfl
theorem sh_98 : shL[98]? = some (2, 5, 0, []) := rfl
theorem sh_99 : shL[99]? = some (0, 2, 0, [some 1, some 100, some 122, none]) := rfl
theorem sh_100 : shL[100]? = some (4, 21, 101, []) := rfl
theorem sh_101 : shL[101]? = some (1, 10, 0, []) := rfl
theorem sh_102 : shL[102]? = some (1, 10, 0, []) := rfl
theorem sh_103 : shL[103]? = some (1, 10, 0, []) := rfl
theorem sh_104 : shL[104]? = some (1, 10, 0, []) := rfl
theorem sh_105 : shL[105]? = some (1, 10, 0, []) := rfl
theorem sh_106 : shL[106]? = some (1, 10, 0, []) := rfl
theorem sh_107 : shL[107]? = some (1, 10, 0, []) := rfl
theorem sh_108 : shL[108]? = some (1, 10, 0, []) := rfl
theorem sh_109 : shL[109]? = some (1, 10, 0, []) := rfl
theorem sh_110 : shL[110]? = some (1, 10, 0, []) := rfl
theorem sh_111 : shL[111]? = some (1, 10, 0, []) := rfl
theorem sh_112 : shL[112]? = some (1, 10, 0, []) := rfl
theorem sh_113 : shL[113]? = some (1, 10, 0, []) := rfl
theorem sh_114 : shL[114]? = some (1, 10, 0, []) := rfl
theorem sh_115 : shL[115]? = some (1, 10, 0, []) := rfl
theorem sh_116 : shL[116]? = some (1, 10, 0, []) := rfl
theorem sh_117 : shL[117]? = some (1, 10, 0, []) := rfl
theorem sh_118 : shL[118]? = some (1, 10, 0, []) := rfl
theorem sh_119 : shL[119]? = some (1, 10, 0, []) := rfl
theorem sh_120 : shL[120]? = some (1, 10, 0, []) := rfl
theorem sh_121 : shL[121]? = some (1, 10, 0, []) := rfl
theorem sh_122 : shL[122]? = some (1, 10, 0, []) := rfl
theorem sh_123 : shL[123]? = some (0, 0, 0, [some 1, some 27, some 124]) := rfl
theorem sh_124 : shL[124]? = some (1, 12, 0, []) := rfl
theorem sh_125 : shL[125]? = some (0, 9, 0, [some 1, some 126, some 127, some 27]) := rfl
theorem sh_126 : shL[126]? = some (3, 256, 0, []) := rfl
theorem sh_127 : shL[127]? = some (1, 256, 0, []) := rfl
theorem sh_128 : shL[128]? = some (0, 12, 0, [some 129, some 130, some 131, some 132, some 133, some 134, none, some 135, some 136, none, none, none, none, none, some 137, some 138, some 139, some 140, some 141, some 142, some 143, some 144, some 145, some 146]) := rfl
theorem sh_129 : shL[129]? = some (2, 60, 0, []) := rfl
theorem sh_130 : shL[130]? = some (1, 180, 0, []) := rfl
theorem sh_131 : shL[131]? = some (1, 9, 0, []) := rfl
theorem sh_132 : shL[132]? = some (1, 36, 0, []) := rfl
theorem sh_133 : shL[133]? = some (3, 2, 0, []) := rfl
theorem sh_134 : shL[134]? = some (1, 200, 0, []) := rfl
theorem sh_135 : shL[135]? = some (1, 50, 0, []) := rfl
theorem sh_136 : shL[136]? = some (2, 10, 0, []) := rfl
theorem sh_137 : shL[137]? = some (3, 88200, 0, []) := rfl
theorem sh_138 : shL[138]? = some (1, 4410, 0, []) := rfl
theorem sh_139 : shL[139]? = some (2, 4410, 0, []) := rfl
theorem sh_140 : shL[140]? = some (1, 10, 0, []) := rfl
theorem sh_141 : shL[141]? = some (3, 210, 0, []) := rfl
theorem sh_142 : shL[142]? = some (1, 10, 0, []) := rfl
theorem sh_143 : shL[143]? = some (1, 4096, 0, []) := rfl
theorem sh_144 : shL[144]? = some (3, 4096, 0, []) := rfl
theorem sh_145 : shL[145]? = some (1, 6561, 0, []) := rfl
theorem sh_146 : shL[146]? = some (3, 256, 0, []) := rfl
theorem shr_11 : ∀ {i : Nat}, i < 10 → shL[11 + i]? = some (2, 4, 0, []) := by
  have e : ∀ i : Fin 10, shL[11 + i.val]? = some (2, 4, 0, []) := by decide +kernel
  exact fun {i} h => e ⟨i, h⟩
theorem shr_24 : ∀ {i : Nat}, i < 2 → shL[24 + i]? = some (1, 12, 0, []) := by
  have e : ∀ i : Fin 2, shL[24 + i.val]? = some (1, 12, 0, []) := by decide +kernel
  exact fun {i} h => e ⟨i, h⟩
theorem shr_31 : ∀ {i : Nat}, i < 21 → shL[31 + i]? = some (1, 10, 0, []) := by
  have e : ∀ i : Fin 21, shL[31 + i.val]? = some (1, 10, 0, []) := by decide +kernel
  exact fun {i} h => e ⟨i, h⟩
theorem shr_54 : ∀ {i : Nat}, i < 21 → shL[54 + i]? = some (1, 10, 0, []) := by
  have e : ∀ i : Fin 21, shL[54 + i.val]? = some (1, 10, 0, []) := by decide +kernel
  exact fun {i} h => e ⟨i, h⟩
theorem shr_76 : ∀ {i : Nat}, i < 21 → shL[76 + i]? = some (2, 10, 0, []) := by
  have e : ∀ i : Fin 21, shL[76 + i.val]? = some (2, 10, 0, []) := by decide +kernel
  exact fun {i} h => e ⟨i, h⟩
theorem shr_101 : ∀ {i : Nat}, i < 21 → shL[101 + i]? = some (1, 10, 0, []) := by
  have e : ∀ i : Fin 21, shL[101 + i.val]? = some (1, 10, 0, []) := by decide +kernel
  exact fun {i} h => e ⟨i, h⟩
theorem ret_iv {a b : Int} {h : Hp} (e : a = b) : Ret (iv b) h (some (iv a)) h := ⟨by rw [e], rfl⟩
theorem ret_jv {a b : Int} {h : Hp} (e : a = b) : Ret (jv b) h (some (jv a)) h := ⟨by rw [e], rfl⟩
theorem ret_b1 {p : Prop} [Decidable p] {h : Hp} (hp : p) : Ret (iv (bi p)) h (some (iv 1)) h := ret_iv (bi_t hp).symm
theorem ret_b0 {p : Prop} [Decidable p] {h : Hp} (hp : ¬ p) : Ret (iv (bi p)) h (some (iv 0)) h := ret_iv (bi_f hp).symm
theorem wp_heq {G : Gx} {E : En} {nL : Nat} {post : Option Value → Hp → Prop} {pc : Nat} {ls : List (Nat × Value)} {st : List Value} {H h : Hp} (e : H = h) (k : Wp G E nL post pc ls st H) : Wp G E nL post pc ls st h := by rw [← e]; exact k
