/-! THE TABLES OF 03 OUT OF THE STATEMENT: each entry by its place among the words (by program). -/
def gAW : List Cond := lw_tbl.filter goodWord
theorem gAW_in {w : Cond} (h : w ∈ lw_tbl) (h2 : goodWord w = true) : w ∈ gAW := List.mem_filter.mpr ⟨h, h2⟩
theorem gAW_t {w : Cond} {i : Nat} (h : tables_1[i]? = some w) (h2 : goodWord w = true) : w ∈ gAW := gAW_in (List.mem_append_right _ (List.mem_of_getElem? h)) h2
theorem gAW_good : GoodIn gAW gAW := fun w h => ⟨h, good_of_word (List.mem_filter.mp h).2⟩
def ckT (i : Nat) (w : Cond) : Bool := decide (tables_1[i]? = some w) && goodWord w
theorem ckT_ok {i : Nat} {w : Cond} (h : ckT i w = true) : w ∈ gAW := by
  simp only [ckT, Bool.and_eq_true, decide_eq_true_eq] at h
  exact gAW_t h.1 h.2
def ckP (i : Nat) (w : Cond) : Bool := decide ((k2_sels lw_privs)[i]? = some w) && goodWord w
theorem ckP_ok {i : Nat} {w : Cond} (h : ckP i w = true) : w ∈ gAW := by
  simp only [ckP, Bool.and_eq_true, decide_eq_true_eq] at h
  exact gAW_in (List.mem_append_left _ (List.mem_of_getElem? h.1)) h.2
theorem lkp_mem {α : Type} : ∀ {l : List (Nat × α)} {i : Nat} {x : α}, lkp l i = some x → (i, x) ∈ l
  | [], _, _, h => by simp [lkp] at h
  | (j, y) :: r, i, x, h => by
    rw [lkp] at h
    split at h
    · rename_i e
      cases h
      rw [e]
      exact List.mem_cons_self
    · exact List.mem_cons_of_mem _ (lkp_mem h)
/-- a list and its places, looked at side by side -/
def ckZ {α : Type} (f : Nat × α → List Nat → Bool) : List (Nat × α) → List (List Nat) → Bool
  | [], [] => true
  | x :: r, p :: q => f x p && ckZ f r q
  | _, _ => false
theorem ckZ_ok {α : Type} {f : Nat × α → List Nat → Bool} : ∀ {l : List (Nat × α)} {ps : List (List Nat)}, ckZ f l ps = true → ∀ x ∈ l, ∃ p, f x p = true
  | [], [], _, x, h => by simp at h
  | x :: r, p :: q, h, y, hy => by
    simp only [ckZ, Bool.and_eq_true] at h
    rcases List.mem_cons.mp hy with rfl | hy
    · exact ⟨p, h.1⟩
    · exact ckZ_ok h.2 y hy
  | [], _ :: _, h, _, _ => by simp [ckZ] at h
  | _ :: _, [], h, _, _ => by simp [ckZ] at h
def gNW : List Cond := [(Cond.fieldLinkNest "LegHedge$Book" (39 : Nat) "LegHedge" "AT_FIRST" "[I" "LegHedge"), (Cond.methodLinkNest "LegHedge$Reckoning" (71 : Nat) ({ cls := "LegHedge$Gauge", name := "<init>", desc := "()V" } : Jvm.MethodName) "LegHedge"), (Cond.methodLinkNest "LegHedge$Reckoning" (113 : Nat) ({ cls := "LegHedge$Credits", name := "search", desc := "(LLegHedge$Credits;IJ)V" } : Jvm.MethodName) "LegHedge"), (Cond.fieldLinkNest "LegHedge$Credits" (122 : Nat) "LegHedge" "ORDERS" "[I" "LegHedge"), (Cond.fieldLinkNest "LegHedge$Book" (97 : Nat) "LegHedge" "LEAST" "[I" "LegHedge"), (Cond.fieldLinkNest "LegHedge$Book" (100 : Nat) "LegHedge" "MOST" "[I" "LegHedge")]
theorem gNW_t : ∀ w ∈ gNW, w ∈ tables_1 := by
  intro w hw
  simp only [gNW, List.mem_cons, List.not_mem_nil, or_false] at hw
  rcases hw with rfl | rfl | rfl | rfl | rfl | rfl
  · exact List.mem_of_getElem? (i := 69) (by decide +kernel)
  · exact List.mem_of_getElem? (i := 169) (by decide +kernel)
  · exact List.mem_of_getElem? (i := 397) (by decide +kernel)
  · exact List.mem_of_getElem? (i := 602) (by decide +kernel)
  · exact List.mem_of_getElem? (i := 665) (by decide +kernel)
  · exact List.mem_of_getElem? (i := 666) (by decide +kernel)
def pF_0 : List (List Nat) := [[72], [75], [78], [81], [84], [86], [50]]
def pF_1 : List (List Nat) := [[108], [110], [112], [114], [118], [119], [120], [121], [122], [123], [124], [125], [126], [127], [47], [107], [116]]
def pF_2 : List (List Nat) := [[174]]
def pF_3 : List (List Nat) := [[178], [180], [182], [184], [186], [188], [190], [192], [194], [196], [198], [200], [202], [203], [204], [205], [173], [82], [48], [79], [117], [76], [74]]
def pF_4 : List (List Nat) := [[248], [250], [252], [254], [256], [257]]
def pF_5 : List (List Nat) := [[43], [44], [45], [46]]
def pF_6 : List (List Nat) := [[278], [280], [282]]
def pF_7 : List (List Nat) := [[415], [416], [417], [418], [419], [420], [421], [179], [73], [77], [49], [80], [83], [185], [183], [187], [193], [195], [197], [199], [191], [189], [201], [181], [109], [113], [115], [111], [85], [87], [249], [251], [253], [255], [279], [281]]
def pF_8 : List (List Nat) := [[916], [917], [918], [919], [922], [923], [924], [925], [926], [927], [928], [929], [930], [931], [932], [933], [934], [935], [936], [937], [938], [939], [940], [948], [949], [950], [954], [955], [956], [957], [921], [943], [944], [945], [946], [941], [942], [947], [951], [953], [952], [920]]
def ckF (o : Nat) (x : Nat × Nat × Nat) (p : List Nat) : Bool := match vwCl[x.2.1]?, p with
  | some (_, T, N), [p] => decide (x.2.2 < N) && decide (N = gNf x.2.1) && ckT p (.fieldLink (gCn o) x.1 (T x.2.2).1 (T x.2.2).2.1 (T x.2.2).2.2.1)
  | _, _ => false
set_option maxRecDepth 100000 in
theorem tF_ck_0 : ckZ (ckF 0) tF_0 pF_0 = true := by decide +kernel
set_option maxRecDepth 100000 in
theorem tF_ck_1 : ckZ (ckF 1) tF_1 pF_1 = true := by decide +kernel
set_option maxRecDepth 100000 in
theorem tF_ck_2 : ckZ (ckF 2) tF_2 pF_2 = true := by decide +kernel
set_option maxRecDepth 100000 in
theorem tF_ck_3 : ckZ (ckF 3) tF_3 pF_3 = true := by decide +kernel
set_option maxRecDepth 100000 in
theorem tF_ck_4 : ckZ (ckF 4) tF_4 pF_4 = true := by decide +kernel
set_option maxRecDepth 100000 in
theorem tF_ck_5 : ckZ (ckF 5) tF_5 pF_5 = true := by decide +kernel
set_option maxRecDepth 100000 in
theorem tF_ck_6 : ckZ (ckF 6) tF_6 pF_6 = true := by decide +kernel
set_option maxRecDepth 100000 in
theorem tF_ck_7 : ckZ (ckF 7) tF_7 pF_7 = true := by decide +kernel
set_option maxRecDepth 100000 in
theorem tF_ck_8 : ckZ (ckF 8) tF_8 pF_8 = true := by decide +kernel
theorem tF_ck {o i : Nat} {x : Nat × Nat} (h : tF o i = some x) : ∃ p, ckF o (i, x) p = true := by
  unfold tF at h
  split at h
  · exact ckZ_ok tF_ck_0 _ (lkp_mem h)
  · exact ckZ_ok tF_ck_1 _ (lkp_mem h)
  · exact ckZ_ok tF_ck_2 _ (lkp_mem h)
  · exact ckZ_ok tF_ck_3 _ (lkp_mem h)
  · exact ckZ_ok tF_ck_4 _ (lkp_mem h)
  · exact ckZ_ok tF_ck_5 _ (lkp_mem h)
  · exact ckZ_ok tF_ck_6 _ (lkp_mem h)
  · exact ckZ_ok tF_ck_7 _ (lkp_mem h)
  · exact ckZ_ok tF_ck_8 _ (lkp_mem h)
  · cases h
def pSf_10 : List (List Nat) := [[1320], [1321]]
def ckSf (o : Nat) (x : Nat × Nat) (p : List Nat) : Bool := match p with
  | [p] => (x.2 == 0 && ckT p (.fieldLink (gCn o) x.1 "java/lang/String" "value" "[B")) || (x.2 == 1 && ckT p (.fieldLink (gCn o) x.1 "java/lang/String" "coder" "B"))
  | _ => false
set_option maxRecDepth 100000 in
theorem tSf_ck_10 : ckZ (ckSf 10) tSf_10 pSf_10 = true := by decide +kernel
theorem tSf_ck {o i : Nat} {x : Nat} (h : tSf o i = some x) : ∃ p, ckSf o (i, x) p = true := by
  unfold tSf at h
  split at h
  · exact ckZ_ok tSf_ck_10 _ (lkp_mem h)
  · cases h
def pC_0 : List (List Nat) := [[640]]
def pC_1 : List (List Nat) := [[385], [409]]
def pC_2 : List (List Nat) := [[339], [340]]
def pC_3 : List (List Nat) := [[648], [341], [347], [373]]
def pC_4 : List (List Nat) := [[694], [690], [691], [692], [693]]
def pC_7 : List (List Nat) := [[550], [527], [528]]
def pC_8 : List (List Nat) := [[830], [831], [832], [833], [1050], [854], [855], [885], [1057], [1058], [1059], [1079], [1080], [1081], [1082], [1103], [1119], [1128], [1141], [1206], [1223], [1224], [1237], [1254], [1255], [1306]]
def pC_9 : List (List Nat) := [[1319]]
def gTx (z : Int) : String := if z = -8 then "111.3.-3" else if z = -9 then ".-2.-1.3" else if z = -10 then "11111.3" else if z = -11 then "1.3" else ""
def ckC (o : Nat) (x : Nat × Nat × Int) (p : List Nat) : Bool := match p with
  | [p] => (x.2.1 == 0 && ckT p (.constant (gCn o) x.1 (Int32.ofInt x.2.2)) && decide (-2147483648 ≤ x.2.2 ∧ x.2.2 ≤ 2147483647)) || (x.2.1 == 1 && ckT p (.constantLong (gCn o) x.1 (Int64.ofInt x.2.2)) && decide (-9223372036854775808 ≤ x.2.2 ∧ x.2.2 ≤ 9223372036854775807)) || (x.2.1 == 2 && o == 4 && decide (tables_1[p]? = some (.stringRef "LegHedge$SetUp" x.1 (gTx x.2.2))) && decide (-12 ≤ x.2.2 ∧ x.2.2 ≤ -8))
  | _ => false
set_option maxRecDepth 100000 in
theorem tC_ck_0 : ckZ (ckC 0) tC_0 pC_0 = true := by decide +kernel
set_option maxRecDepth 100000 in
theorem tC_ck_1 : ckZ (ckC 1) tC_1 pC_1 = true := by decide +kernel
set_option maxRecDepth 100000 in
theorem tC_ck_2 : ckZ (ckC 2) tC_2 pC_2 = true := by decide +kernel
set_option maxRecDepth 100000 in
theorem tC_ck_3 : ckZ (ckC 3) tC_3 pC_3 = true := by decide +kernel
set_option maxRecDepth 100000 in
theorem tC_ck_4 : ckZ (ckC 4) tC_4 pC_4 = true := by decide +kernel
set_option maxRecDepth 100000 in
theorem tC_ck_7 : ckZ (ckC 7) tC_7 pC_7 = true := by decide +kernel
set_option maxRecDepth 100000 in
theorem tC_ck_8 : ckZ (ckC 8) tC_8 pC_8 = true := by decide +kernel
set_option maxRecDepth 100000 in
theorem tC_ck_9 : ckZ (ckC 9) tC_9 pC_9 = true := by decide +kernel
theorem tC_ck {o i : Nat} {x : Nat × Int} (h : tC o i = some x) : ∃ p, ckC o (i, x) p = true := by
  unfold tC at h
  split at h
  · exact ckZ_ok tC_ck_0 _ (lkp_mem h)
  · exact ckZ_ok tC_ck_1 _ (lkp_mem h)
  · exact ckZ_ok tC_ck_2 _ (lkp_mem h)
  · exact ckZ_ok tC_ck_3 _ (lkp_mem h)
  · exact ckZ_ok tC_ck_4 _ (lkp_mem h)
  · exact ckZ_ok tC_ck_7 _ (lkp_mem h)
  · exact ckZ_ok tC_ck_8 _ (lkp_mem h)
  · exact ckZ_ok tC_ck_9 _ (lkp_mem h)
  · cases h
def pN_0 : List (List Nat) := [[37, 38, 4]]
def pN_3 : List (List Nat) := [[31, 32, 3], [101, 102, 5], [167, 168, 6]]
def pN_7 : List (List Nat) := [[25, 26, 2], [239, 32, 3], [241, 242, 7], [271, 272, 8]]
def pN_9 : List (List Nat) := [[17, 18, 1], [824, 825, 11]]
def ckN (o : Nat) (x : Nat × Nat) (p : List Nat) : Bool := match vwCl[x.2]?, p with
  | some (C, _, N), [p, q, r] => decide (x.2 < 9) && decide (N = gNf x.2) && ckT p (.classLink (gCn o) x.1 C) && ckT q (.instantiable C N) && ckT r (.initialized C)
  | _, _ => false
set_option maxRecDepth 100000 in
theorem tN_ck_0 : ckZ (ckN 0) tN_0 pN_0 = true := by decide +kernel
set_option maxRecDepth 100000 in
theorem tN_ck_3 : ckZ (ckN 3) tN_3 pN_3 = true := by decide +kernel
set_option maxRecDepth 100000 in
theorem tN_ck_7 : ckZ (ckN 7) tN_7 pN_7 = true := by decide +kernel
set_option maxRecDepth 100000 in
theorem tN_ck_9 : ckZ (ckN 9) tN_9 pN_9 = true := by decide +kernel
theorem tN_ck {o i : Nat} {x : Nat} (h : tN o i = some x) : ∃ p, ckN o (i, x) p = true := by
  unfold tN at h
  split at h
  · exact ckZ_ok tN_ck_0 _ (lkp_mem h)
  · exact ckZ_ok tN_ck_3 _ (lkp_mem h)
  · exact ckZ_ok tN_ck_7 _ (lkp_mem h)
  · exact ckZ_ok tN_ck_9 _ (lkp_mem h)
  · cases h
def pA_3 : List (List Nat) := [[163], [165]]
def pA_4 : List (List Nat) := [[247]]
def pA_6 : List (List Nat) := [[277]]
def ckA (o : Nat) (x : Nat × Nat) (p : List Nat) : Bool := match p with
  | [p] => (x.2 == 100 && ckT p (.classLink (gCn o) x.1 "[[I")) || (x.2 == 101 && ckT p (.classLink (gCn o) x.1 "[[J"))
  | _ => false
set_option maxRecDepth 100000 in
theorem tA_ck_3 : ckZ (ckA 3) tA_3 pA_3 = true := by decide +kernel
set_option maxRecDepth 100000 in
theorem tA_ck_4 : ckZ (ckA 4) tA_4 pA_4 = true := by decide +kernel
set_option maxRecDepth 100000 in
theorem tA_ck_6 : ckZ (ckA 6) tA_6 pA_6 = true := by decide +kernel
theorem tA_ck {o i : Nat} {x : Nat} (h : tA o i = some x) : ∃ p, ckA o (i, x) p = true := by
  unfold tA at h
  split at h
  · exact ckZ_ok tA_ck_3 _ (lkp_mem h)
  · exact ckZ_ok tA_ck_4 _ (lkp_mem h)
  · exact ckZ_ok tA_ck_6 _ (lkp_mem h)
  · cases h
def pG_0 : List (List Nat) := [[69], [665], [666]]
def pG_1 : List (List Nat) := [[602]]
def pG_7 : List (List Nat) := [[456], [458], [563]]
def pG_10 : List (List Nat) := [[707], [723]]
/-- statics: class, name, descriptor, what the plain machine has there -/
def gSt : List (String × String × String × Nat × Int) := [("LegHedge", "AT_FIRST", "[I", 2, -3), ("LegHedge", "LEAST", "[I", 2, -4), ("LegHedge", "MOST", "[I", 2, -5), ("LegHedge", "ORDERS", "[I", 2, -7), ("LegHedge", "UNDER", "[I", 2, -6), ("java/lang/String", "COMPACT_STRINGS", "Z", 0, 1), ("jdk/internal/util/Preconditions", "SIOOBE_FORMATTER", "Ljava/util/function/BiFunction;", 4, 0)]
def ckG (o : Nat) (x : Nat × Nat × Int) (p : List Nat) : Bool := match p with
  | [p] => gSt.any (fun q => decide (q.2.2.2 = x.2) && (ckT p (.fieldLink (gCn o) x.1 q.1 q.2.1 q.2.2.1) || decide (Cond.fieldLinkNest (gCn o) x.1 q.1 q.2.1 q.2.2.1 "LegHedge" ∈ gNW)))
  | _ => false
set_option maxRecDepth 100000 in
theorem tG_ck_0 : ckZ (ckG 0) tG_0 pG_0 = true := by decide +kernel
set_option maxRecDepth 100000 in
theorem tG_ck_1 : ckZ (ckG 1) tG_1 pG_1 = true := by decide +kernel
set_option maxRecDepth 100000 in
theorem tG_ck_7 : ckZ (ckG 7) tG_7 pG_7 = true := by decide +kernel
set_option maxRecDepth 100000 in
theorem tG_ck_10 : ckZ (ckG 10) tG_10 pG_10 = true := by decide +kernel
theorem tG_ck {o i : Nat} {x : Nat × Int} (h : tG o i = some x) : ∃ p, ckG o (i, x) p = true := by
  unfold tG at h
  split at h
  · exact ckZ_ok tG_ck_0 _ (lkp_mem h)
  · exact ckZ_ok tG_ck_1 _ (lkp_mem h)
  · exact ckZ_ok tG_ck_7 _ (lkp_mem h)
  · exact ckZ_ok tG_ck_10 _ (lkp_mem h)
  · cases h
def pI_0 : List (List Nat) := [[36], [310], [329], [332]]
def pI_1 : List (List Nat) := [[106], [386], [396], [400]]
def pI_2 : List (List Nat) := [[172]]
def pI_3 : List (List Nat) := [[30], [352], [346], [374], [363], [370]]
def pI_4 : List (List Nat) := [[246], [755]]
def pI_5 : List (List Nat) := [[42], [468]]
def pI_6 : List (List Nat) := [[276]]
def pI_7 : List (List Nat) := [[22], [823]]
def pI_8 : List (List Nat) := [[829], [868], [883], [884], [896], [891], [899], [890]]
def gIn (k : Nat) : MethodName := match k with
  | 11 => Lib.Math.max.name
  | 12 => Lib.Math.min.name
  | 13 => Lib.Math.abs.name
  | 14 => Lib.MathLoose.max_long.x
  | 15 => Lib.MathLoose.min_long.x
  | 16 => Lib.MathLoose.abs_long.x
  | 17 => arraycopyName
  | 18 => yJ13_signum_95d88
  | _ => objectInit
def ckI (o : Nat) (x : Nat × Nat) (p : List Nat) : Bool := match p with
  | [p] => decide (11 ≤ x.2 ∧ x.2 ≤ 19) && ckT p (.methodLink (gCn o) x.1 (gIn x.2))
  | _ => false
set_option maxRecDepth 100000 in
theorem tI_ck_0 : ckZ (ckI 0) tI_0 pI_0 = true := by decide +kernel
set_option maxRecDepth 100000 in
theorem tI_ck_1 : ckZ (ckI 1) tI_1 pI_1 = true := by decide +kernel
set_option maxRecDepth 100000 in
theorem tI_ck_2 : ckZ (ckI 2) tI_2 pI_2 = true := by decide +kernel
set_option maxRecDepth 100000 in
theorem tI_ck_3 : ckZ (ckI 3) tI_3 pI_3 = true := by decide +kernel
set_option maxRecDepth 100000 in
theorem tI_ck_4 : ckZ (ckI 4) tI_4 pI_4 = true := by decide +kernel
set_option maxRecDepth 100000 in
theorem tI_ck_5 : ckZ (ckI 5) tI_5 pI_5 = true := by decide +kernel
set_option maxRecDepth 100000 in
theorem tI_ck_6 : ckZ (ckI 6) tI_6 pI_6 = true := by decide +kernel
set_option maxRecDepth 100000 in
theorem tI_ck_7 : ckZ (ckI 7) tI_7 pI_7 = true := by decide +kernel
set_option maxRecDepth 100000 in
theorem tI_ck_8 : ckZ (ckI 8) tI_8 pI_8 = true := by decide +kernel
theorem tI_ck {o i : Nat} {x : Nat} (h : tI o i = some x) : ∃ p, ckI o (i, x) p = true := by
  unfold tI at h
  split at h
  · exact ckZ_ok tI_ck_0 _ (lkp_mem h)
  · exact ckZ_ok tI_ck_1 _ (lkp_mem h)
  · exact ckZ_ok tI_ck_2 _ (lkp_mem h)
  · exact ckZ_ok tI_ck_3 _ (lkp_mem h)
  · exact ckZ_ok tI_ck_4 _ (lkp_mem h)
  · exact ckZ_ok tI_ck_5 _ (lkp_mem h)
  · exact ckZ_ok tI_ck_6 _ (lkp_mem h)
  · exact ckZ_ok tI_ck_7 _ (lkp_mem h)
  · exact ckZ_ok tI_ck_8 _ (lkp_mem h)
  · cases h
def pM_0 : List (List Nat) := [[39, 41, 4, 40, 0, 0], [61, 64, 4, 62, 63, 0], [71, 68, 4, 66, 67, 0], [464, 467, 4, 465, 466, 0], [302, 305, 4, 303, 304, 0], [306, 309, 4, 307, 308, 0], [326, 328, 3, 327, 0, 0], [788, 791, 3, 790, 25, 1], [641, 535, 6, 534, 0, 0], [642, 539, 4, 537, 538, 0], [661, 664, 3, 663, 20, 1]]
def pM_1 : List (List Nat) := [[387, 305, 4, 303, 304, 0], [388, 390, 5, 389, 0, 0], [391, 338, 6, 336, 337, 0], [392, 395, 5, 394, 8, 1], [405, 408, 5, 407, 10, 1], [401, 404, 5, 403, 9, 1], [410, 413, 5, 412, 11, 1], [414, 399, 5, 398, 0, 0], [604, 607, 5, 606, 18, 1]]
def pM_3 : List (List Nat) := [[33, 35, 3, 34, 0, 0], [103, 105, 5, 104, 0, 0], [169, 171, 6, 170, 0, 0], [294, 297, 2, 296, 0, 1], [317, 320, 2, 319, 1, 1], [342, 345, 2, 344, 2, 1], [348, 351, 2, 350, 3, 1], [377, 380, 2, 379, 7, 1], [381, 384, 5, 382, 383, 0], [397, 399, 5, 398, 0, 0], [335, 338, 6, 336, 337, 0], [647, 535, 6, 534, 0, 0], [298, 301, 3, 299, 300, 0], [313, 316, 3, 314, 315, 0], [321, 305, 4, 303, 304, 0], [322, 325, 3, 323, 324, 0], [355, 358, 2, 357, 4, 1], [359, 362, 2, 361, 5, 1], [366, 369, 2, 368, 6, 1]]
def pM_4 : List (List Nat) := [[683, 686, 7, 685, 21, 1], [747, 750, 7, 749, 22, 1], [687, 689, 7, 688, 0, 0], [695, 698, 13, 696, 697, 0], [699, 702, 13, 700, 701, 0], [709, 712, 13, 710, 711, 0], [751, 754, 7, 753, 23, 1]]
def pM_5 : List (List Nat) := [[65, 68, 4, 66, 67, 0], [493, 309, 4, 307, 308, 0], [540, 305, 4, 303, 304, 0], [541, 492, 4, 490, 491, 0]]
def pM_7 : List (List Nat) := [[27, 29, 2, 28, 0, 0], [240, 35, 3, 34, 0, 0], [243, 245, 7, 244, 0, 0], [273, 275, 8, 274, 0, 0], [290, 293, 2, 291, 292, 0], [441, 444, 1, 442, 443, 0], [452, 455, 1, 454, 12, 1], [470, 473, 1, 472, 13, 1], [445, 447, 1, 446, 0, 0], [448, 450, 1, 449, 0, 0], [451, 305, 4, 303, 304, 0], [479, 482, 1, 481, 14, 1], [488, 309, 4, 307, 308, 0], [489, 492, 4, 490, 491, 0], [498, 501, 1, 500, 15, 1], [502, 301, 3, 299, 300, 0], [503, 316, 3, 314, 315, 0], [508, 511, 1, 510, 16, 1], [520, 523, 1, 522, 17, 1], [529, 532, 3, 530, 531, 0], [524, 526, 1, 525, 0, 0], [555, 325, 3, 323, 324, 0], [560, 562, 1, 561, 0, 0], [565, 328, 3, 327, 0, 0], [590, 593, 5, 591, 592, 0], [598, 601, 5, 599, 600, 0], [616, 611, 1, 609, 610, 0], [621, 623, 1, 622, 0, 0], [483, 64, 4, 62, 63, 0], [469, 68, 4, 66, 67, 0], [632, 635, 1, 634, 19, 1], [460, 463, 3, 461, 462, 0], [657, 660, 3, 658, 659, 0], [671, 674, 7, 672, 673, 0], [679, 682, 7, 680, 681, 0], [756, 759, 1, 758, 24, 1], [765, 767, 1, 766, 0, 0], [768, 771, 8, 769, 770, 0], [784, 787, 3, 785, 786, 0], [796, 799, 8, 797, 798, 0], [800, 803, 8, 801, 802, 0], [808, 810, 8, 809, 0, 0], [819, 822, 8, 820, 821, 0], [533, 535, 6, 534, 0, 0], [536, 539, 4, 537, 538, 0], [636, 639, 3, 637, 638, 0], [643, 646, 2, 644, 645, 0]]
def pM_8 : List (List Nat) := [[834, 837, 11, 836, 26, 1], [1051, 1053, 11, 1052, 0, 0], [846, 849, 11, 848, 29, 1], [880, 882, 11, 881, 0, 0], [842, 845, 11, 844, 28, 1], [877, 879, 11, 878, 0, 0], [856, 859, 11, 858, 31, 1], [864, 867, 11, 866, 33, 1], [869, 872, 11, 871, 34, 1], [873, 876, 11, 875, 35, 1], [850, 853, 11, 852, 30, 1], [860, 863, 11, 862, 32, 1], [892, 895, 11, 894, 37, 1], [904, 907, 11, 906, 39, 1], [912, 915, 11, 914, 41, 1], [908, 911, 11, 910, 40, 1], [900, 903, 11, 902, 38, 1], [838, 841, 11, 840, 27, 1], [886, 889, 11, 888, 36, 1], [1064, 1066, 11, 1065, 0, 0], [1047, 1049, 11, 1048, 0, 0], [1054, 1056, 11, 1055, 0, 0], [1060, 1063, 11, 1062, 42, 1], [1067, 1070, 11, 1069, 43, 1], [1087, 1090, 11, 1089, 44, 1], [1091, 1094, 11, 1093, 45, 1], [1108, 1111, 11, 1110, 46, 1], [1124, 1127, 11, 1126, 48, 1], [1116, 1118, 11, 1117, 0, 0], [1120, 1123, 11, 1122, 47, 1], [1137, 1140, 11, 1139, 49, 1], [1182, 1185, 11, 1184, 50, 1], [1186, 1189, 11, 1188, 51, 1], [1194, 1181, 11, 1179, 1180, 0], [1199, 1201, 11, 1200, 0, 0], [1215, 1218, 11, 1217, 53, 1], [1211, 1214, 11, 1213, 52, 1], [1229, 1232, 11, 1231, 54, 1], [1260, 1263, 11, 1262, 59, 1], [1246, 1249, 11, 1248, 56, 1], [1250, 1253, 11, 1252, 57, 1], [1256, 1259, 11, 1258, 58, 1], [1264, 1267, 11, 1266, 60, 1], [1276, 1078, 11, 1076, 1077, 0], [1277, 1102, 11, 1100, 1101, 0], [1278, 1046, 11, 1044, 1045, 0], [1272, 1275, 11, 1274, 62, 1], [1242, 1245, 11, 1244, 55, 1], [1268, 1271, 11, 1270, 61, 1], [1283, 1285, 11, 1284, 0, 0], [1298, 1301, 11, 1300, 63, 1]]
def pM_9 : List (List Nat) := [[19, 21, 1, 20, 0, 0], [826, 828, 11, 827, 0, 0], [437, 440, 1, 438, 439, 0], [1043, 1046, 11, 1044, 1045, 0], [474, 444, 1, 442, 443, 0], [1071, 1074, 11, 1072, 1073, 0], [475, 478, 1, 476, 477, 0], [1075, 1078, 11, 1076, 1077, 0], [484, 487, 1, 485, 486, 0], [1083, 1086, 11, 1084, 1085, 0], [494, 497, 1, 495, 496, 0], [1095, 1098, 11, 1096, 1097, 0], [504, 507, 1, 505, 506, 0], [1099, 1102, 11, 1100, 1101, 0], [512, 515, 1, 513, 514, 0], [1104, 1107, 11, 1105, 1106, 0], [516, 519, 1, 517, 518, 0], [1112, 1115, 11, 1113, 1114, 0], [542, 545, 1, 543, 544, 0], [1129, 1132, 11, 1130, 1131, 0], [546, 549, 1, 547, 548, 0], [1133, 1136, 11, 1134, 1135, 0], [551, 554, 1, 552, 553, 0], [1142, 1145, 11, 1143, 1144, 0], [556, 559, 1, 557, 558, 0], [1146, 1149, 11, 1147, 1148, 0], [566, 569, 1, 567, 568, 0], [1150, 1153, 11, 1151, 1152, 0], [570, 573, 1, 571, 572, 0], [1154, 1157, 11, 1155, 1156, 0], [574, 577, 1, 575, 576, 0], [1158, 1161, 11, 1159, 1160, 0], [578, 581, 1, 579, 580, 0], [1162, 1165, 11, 1163, 1164, 0], [582, 585, 1, 583, 584, 0], [1166, 1169, 11, 1167, 1168, 0], [586, 589, 1, 587, 588, 0], [1170, 1173, 11, 1171, 1172, 0], [594, 597, 1, 595, 596, 0], [1174, 1177, 11, 1175, 1176, 0], [608, 611, 1, 609, 610, 0], [1178, 1181, 11, 1179, 1180, 0], [612, 615, 1, 613, 614, 0], [1190, 1193, 11, 1191, 1192, 0], [617, 620, 1, 618, 619, 0], [1195, 1198, 11, 1196, 1197, 0], [624, 627, 1, 625, 626, 0], [1202, 1205, 11, 1203, 1204, 0], [628, 631, 1, 629, 630, 0], [1207, 1210, 11, 1208, 1209, 0], [649, 652, 1, 650, 651, 0], [1219, 1222, 11, 1220, 1221, 0], [653, 656, 1, 654, 655, 0], [1225, 1228, 11, 1226, 1227, 0], [667, 670, 1, 668, 669, 0], [1233, 1236, 11, 1234, 1235, 0], [675, 678, 1, 676, 677, 0], [1238, 1241, 11, 1239, 1240, 0], [761, 764, 1, 762, 763, 0], [1279, 1282, 11, 1280, 1281, 0], [772, 775, 1, 773, 774, 0], [1286, 1289, 11, 1287, 1288, 0], [776, 779, 1, 777, 778, 0], [1290, 1293, 11, 1291, 1292, 0], [780, 783, 1, 781, 782, 0], [1294, 1297, 11, 1295, 1296, 0], [792, 795, 1, 793, 794, 0], [1302, 1305, 11, 1303, 1304, 0], [804, 807, 1, 805, 806, 0], [1307, 1310, 11, 1308, 1309, 0], [811, 814, 1, 812, 813, 0], [1311, 1314, 11, 1312, 1313, 0], [815, 818, 1, 816, 817, 0], [1315, 1318, 11, 1316, 1317, 0]]
def pM_10 : List (List Nat) := [[703, 706, 13, 704, 705, 0], [713, 716, 13, 714, 715, 0], [717, 719, 14, 718, 0, 0], [725, 727, 15, 726, 0, 0]]
def pM_11 : List (List Nat) := [[720, 722, 13, 721, 0, 0]]
def ckM (o : Nat) (x : Nat × Nat × Nat × gY) (p : List Nat) : Bool := match p with
  | [p, q, r, i, s, b] => (ckT p (.methodLink (gCn o) x.1 (yN x.2.2.2)) || decide (Cond.methodLinkNest (gCn o) x.1 (yN x.2.2.2) "LegHedge" ∈ gNW)) &&
    ckT q (.code (yN x.2.2.2) (yC x.2.2.2) (yL x.2.2.2) (yR x.2.2.2)) && ckT r (.initialized (yN x.2.2.2).cls) && decide ((yN x.2.2.2).cls = gCn (yO x.2.2.2)) &&
    decide ((yN x.2.2.2).cls ≠ "java/lang/invoke/MethodHandle") && decide ((yN x.2.2.2).cls ≠ "java/lang/invoke/VarHandle") && decide ((parseMethodDescriptor (yN x.2.2.2).desc).map (fun d => d.parameters.length) = some x.2.2.1) &&
    plainName (yN x.2.2.2).cls && decide (yL x.2.2.2 ≤ 40) && decide (yH x.2.2.2 = true ↔ (yN x.2.2.2).name = "<init>") &&
    (match x.2.1 with
      | 0 => ckT i (.static (yN x.2.2.2)) && decide (yH x.2.2.2 = false)
      | 1 => ckT i (.instanceMethod (yN x.2.2.2)) && (if b = 1 then ckP s (.selects (yN x.2.2.2).cls (yN x.2.2.2) (yN x.2.2.2)) else ckT s (.selects (yN x.2.2.2).cls (yN x.2.2.2) (yN x.2.2.2))) && decide (yH x.2.2.2 = false) && decide (yO x.2.2.2 < 9 ∨ yO x.2.2.2 = 10)
      | _ => ckT i (.instanceMethod (yN x.2.2.2)) && decide (yH x.2.2.2 = true) && decide (yR x.2.2.2 = none))
  | _ => false
set_option maxRecDepth 100000 in
theorem tM_ck_0 : ckZ (ckM 0) tM_0 pM_0 = true := by decide +kernel
set_option maxRecDepth 100000 in
theorem tM_ck_1 : ckZ (ckM 1) tM_1 pM_1 = true := by decide +kernel
set_option maxRecDepth 100000 in
theorem tM_ck_3 : ckZ (ckM 3) tM_3 pM_3 = true := by decide +kernel
set_option maxRecDepth 100000 in
theorem tM_ck_4 : ckZ (ckM 4) tM_4 pM_4 = true := by decide +kernel
set_option maxRecDepth 100000 in
theorem tM_ck_5 : ckZ (ckM 5) tM_5 pM_5 = true := by decide +kernel
set_option maxRecDepth 100000 in
theorem tM_ck_7 : ckZ (ckM 7) tM_7 pM_7 = true := by decide +kernel
set_option maxRecDepth 100000 in
theorem tM_ck_8 : ckZ (ckM 8) tM_8 pM_8 = true := by decide +kernel
set_option maxRecDepth 100000 in
theorem tM_ck_9 : ckZ (ckM 9) tM_9 pM_9 = true := by decide +kernel
set_option maxRecDepth 100000 in
theorem tM_ck_10 : ckZ (ckM 10) tM_10 pM_10 = true := by decide +kernel
set_option maxRecDepth 100000 in
theorem tM_ck_11 : ckZ (ckM 11) tM_11 pM_11 = true := by decide +kernel
theorem tM_ck {o i : Nat} {x : Nat × Nat × gY} (h : tM o i = some x) : ∃ p, ckM o (i, x) p = true := by
  unfold tM at h
  split at h
  · exact ckZ_ok tM_ck_0 _ (lkp_mem h)
  · exact ckZ_ok tM_ck_1 _ (lkp_mem h)
  · exact ckZ_ok tM_ck_3 _ (lkp_mem h)
  · exact ckZ_ok tM_ck_4 _ (lkp_mem h)
  · exact ckZ_ok tM_ck_5 _ (lkp_mem h)
  · exact ckZ_ok tM_ck_7 _ (lkp_mem h)
  · exact ckZ_ok tM_ck_8 _ (lkp_mem h)
  · exact ckZ_ok tM_ck_9 _ (lkp_mem h)
  · exact ckZ_ok tM_ck_10 _ (lkp_mem h)
  · exact ckZ_ok tM_ck_11 _ (lkp_mem h)
  · cases h
/-- what is said of each class -/
def ckCl (ci : Nat) (x : vw_C) (ps : List Nat) : Bool := decide (x.2.2 = gNf ci) && decide (∀ k, k < x.2.2 → parseFieldDescriptor (x.2.1 k).2.2.1 = some (gFt ci k)) && decide (∀ a, a < x.2.2 → ∀ b, b < x.2.2 → a ≠ b → (x.2.1 a).2.1 ≠ (x.2.1 b).2.1) && decide ((u_ws x.1 x.2.1 x.2.2).length = ps.length) && ((u_ws x.1 x.2.1 x.2.2).zip ps).all (fun q => ckT q.2 q.1) && decide (∀ k, k < x.2.2 → ((x.2.1 k).2.2.2 = gFin ci k))
set_option maxRecDepth 100000 in
theorem cl_ck_0 : ckCl 0 (RX0, TX0, 6) [88, 90, 92, 94, 96, 98] = true := by decide +kernel
set_option maxRecDepth 100000 in
theorem cl_ck_1 : ckCl 1 (RX1, TX1, 16) [128, 130, 132, 134, 136, 138, 140, 142, 144, 146, 148, 150, 152, 154, 156, 158] = true := by decide +kernel
set_option maxRecDepth 100000 in
theorem cl_ck_2 : ckCl 2 (RX2, TX2, 1) [175] = true := by decide +kernel
set_option maxRecDepth 100000 in
theorem cl_ck_3 : ckCl 3 (RX3, TX3, 16) [206, 208, 210, 212, 214, 216, 218, 220, 222, 224, 226, 228, 230, 232, 234, 236] = true := by decide +kernel
set_option maxRecDepth 100000 in
theorem cl_ck_4 : ckCl 4 (RX4, TX4, 6) [258, 260, 262, 264, 266, 268] = true := by decide +kernel
set_option maxRecDepth 100000 in
theorem cl_ck_5 : ckCl 5 (RX5, TX5, 4) [51, 53, 55, 57] = true := by decide +kernel
set_option maxRecDepth 100000 in
theorem cl_ck_6 : ckCl 6 (RX6, TX6, 3) [283, 285, 287] = true := by decide +kernel
set_option maxRecDepth 100000 in
theorem cl_ck_7 : ckCl 7 (RX7, TX7, 7) [422, 424, 426, 428, 430, 432, 434] = true := by decide +kernel
set_option maxRecDepth 100000 in
theorem cl_ck_8 : ckCl 8 (RX8, TX8, 42) [958, 960, 962, 964, 966, 968, 970, 972, 974, 976, 978, 980, 982, 984, 986, 988, 990, 992, 994, 996, 998, 1000, 1002, 1004, 1006, 1008, 1010, 1012, 1014, 1016, 1018, 1020, 1022, 1024, 1026, 1028, 1030, 1032, 1034, 1036, 1038, 1040] = true := by decide +kernel
theorem cl_all {ci : Nat} {x : vw_C} (h : vwCl[ci]? = some x) : ∃ ps, ckCl ci x ps = true := by
  match ci, h with
  | 0, h => cases h; exact ⟨_, cl_ck_0⟩
  | 1, h => cases h; exact ⟨_, cl_ck_1⟩
  | 2, h => cases h; exact ⟨_, cl_ck_2⟩
  | 3, h => cases h; exact ⟨_, cl_ck_3⟩
  | 4, h => cases h; exact ⟨_, cl_ck_4⟩
  | 5, h => cases h; exact ⟨_, cl_ck_5⟩
  | 6, h => cases h; exact ⟨_, cl_ck_6⟩
  | 7, h => cases h; exact ⟨_, cl_ck_7⟩
  | 8, h => cases h; exact ⟨_, cl_ck_8⟩
  | ci + 9, h => simp [vwCl] at h
theorem cl_ok {ci : Nat} {C : String} {T : u_T} {N : Nat} (h : vwCl[ci]? = some (C, T, N)) : ci < 9 ∧ N = gNf ci ∧ (∀ k, k < N → parseFieldDescriptor (T k).2.2.1 = some (gFt ci k)) ∧ (∀ a, a < N → ∀ b, b < N → a ≠ b → (T a).2.1 ≠ (T b).2.1) ∧ (∀ w ∈ u_ws C T N, w ∈ gAW) ∧ ∀ k, k < N → (T k).2.2.2 = gFin ci k := by
  have hlt : ci < 9 := (List.getElem?_eq_some_iff.mp h).1
  obtain ⟨ps, hp⟩ := cl_all h
  simp only [ckCl, Bool.and_eq_true, decide_eq_true_eq, List.all_eq_true] at hp
  obtain ⟨⟨⟨⟨⟨h1, h2⟩, h3⟩, h4⟩, h5⟩, h6⟩ := hp
  refine ⟨hlt, h1, h2, h3, fun w hw => ?_, h6⟩
  obtain ⟨i, hi⟩ := List.getElem?_of_mem hw
  have hl : i < ps.length := by rw [← h4]; exact (List.getElem?_eq_some_iff.mp hi).1
  have hz : ((u_ws C T N).zip ps)[i]? = some (w, ps[i]) := by
    rw [List.getElem?_zip_eq_some]
    exact ⟨hi, by simp [hl]⟩
  exact ckT_ok (h5 _ (List.mem_of_getElem? hz))
