/-! THE TABLES OF 03 OUT OF THE STATEMENT: each entry by its place among the words (by program). -/
def gAW : List Cond := lw_tbl.filter goodWord
theorem gAW_in {w : Cond} (h : w ∈ lw_tbl) (h2 : goodWord w = true) : w ∈ gAW := List.mem_filter.mpr ⟨h, h2⟩
theorem gAW_t {w : Cond} {i : Nat} (h : tables_1[i]? = some w) (h2 : goodWord w = true) : w ∈ gAW := gAW_in (List.mem_append_right _ (List.mem_of_getElem? h)) h2
theorem gAW_good : GoodIn gAW gAW := fun w h => ⟨h, good_of_word (List.mem_filter.mp h).2⟩
def ckT (i : Nat) (w : Cond) : Bool := decide (tables_1[i]? = some w) && goodWord w
theorem ckT_ok {i : Nat} {w : Cond} (h : ckT i w = true) : w ∈ gAW := by
  simp only [ckT, Bool.and_eq_true, decide_eq_true_eq] at h
  exact gAW_t h.1 h.2
def ckP (i : Nat) (w : Cond) : Bool := decide ((k2_sels lw_privs)[i]? = some w) && goodWord w
theorem ckP_ok {i : Nat} {w : Cond} (h : ckP i w = true) : w ∈ gAW := by
  simp only [ckP, Bool.and_eq_true, decide_eq_true_eq] at h
  exact gAW_in (List.mem_append_left _ (List.mem_of_getElem? h.1)) h.2
theorem lkp_mem {α : Type} : ∀ {l : List (Nat × α)} {i : Nat} {x : α}, lkp l i = some x → (i, x) ∈ l
  | [], _, _, h => by simp [lkp] at h
  | (j, y) :: r, i, x, h => by
    rw [lkp] at h
    split at h
    · rename_i e
      cases h
      rw [e]
      exact List.mem_cons_self
    · exact List.mem_cons_of_mem _ (lkp_mem h)
/-- a list and its places, looked at side by side -/
def ckZ {α : Type} (f : Nat × α → List Nat → Bool) : List (Nat × α) → List (List Nat) → Bool
  | [], [] => true
  | x :: r, p :: q => f x p && ckZ f r q
  | _, _ => false
theorem ckZ_ok {α : Type} {f : Nat × α → List Nat → Bool} : ∀ {l : List (Nat × α)} {ps : List (List Nat)}, ckZ f l ps = true → ∀ x ∈ l, ∃ p, f x p = true
  | [], [], _, x, h => by simp at h
  | x :: r, p :: q, h, y, hy => by
    simp only [ckZ, Bool.and_eq_true] at h
    rcases List.mem_cons.mp hy with rfl | hy
    · exact ⟨p, h.1⟩
    · exact ckZ_ok h.2 y hy
  | [], _ :: _, h, _, _ => by simp [ckZ] at h
  | _ :: _, [], h, _, _ => by simp [ckZ] at h
def gNW : List Cond := [(Cond.fieldLinkNest "LegHedge$Book" (39 : Nat) "LegHedge" "AT_FIRST" "[I" "LegHedge"), (Cond.methodLinkNest "LegHedge$Reckoning" (71 : Nat) ({ cls := "LegHedge$Gauge", name := "<init>", desc := "()V" } : Jvm.MethodName) "LegHedge"), (Cond.methodLinkNest "LegHedge$Reckoning" (113 : Nat) ({ cls := "LegHedge$Credits", name := "search", desc := "(LLegHedge$Credits;IJ)V" } : Jvm.MethodName) "LegHedge"), (Cond.fieldLinkNest "LegHedge$Credits" (122 : Nat) "LegHedge" "ORDERS" "[I" "LegHedge"), (Cond.fieldLinkNest "LegHedge$Book" (97 : Nat) "LegHedge" "LEAST" "[I" "LegHedge"), (Cond.fieldLinkNest "LegHedge$Book" (100 : Nat) "LegHedge" "MOST" "[I" "LegHedge")]
theorem gNW_t : ∀ w ∈ gNW, w ∈ tables_1 := by
  intro w hw
  simp only [gNW, List.mem_cons, List.not_mem_nil, or_false] at hw
  rcases hw with rfl | rfl | rfl | rfl | rfl | rfl
  · exact List.mem_of_getElem? (i := 69) (by decide +kernel)
  · exact List.mem_of_getElem? (i := 169) (by decide +kernel)
  · exact List.mem_of_getElem? (i := 397) (by decide +kernel)
  · exact List.mem_of_getElem? (i := 602) (by decide +kernel)
  · exact List.mem_of_getElem? (i := 665) (by decide +kernel)
  · exact List.mem_of_getElem? (i := 666) (by decide +kernel)
def pF_0 : List (List Nat) := [[72], [75], [78], [81], [84], [86], [50]]
def pF_1 : List (List Nat) := [[108], [110], [112], [114], [118], [119], [120], [121], [122], [123], [124], [125], [126], [127], [47], [107], [116]]
def pF_2 : List (List Nat) := [[174]]
def pF_3 : List (List Nat) := [[178], [180], [182], [184], [186], [188], [190], [192], [194], [196], [198], [200], [202], [203], [204], [205], [173], [82], [48], [79], [117], [76], [74]]
def pF_4 : List (List Nat) := [[248], [250], [252], [254], [256], [257]]
def pF_5 : List (List Nat) := [[43], [44], [45], [46]]
def pF_6 : List (List Nat) := [[278], [280], [282]]
def pF_7 : List (List Nat) := [[415], [416], [417], [418], [419], [420], [421], [179], [73], [77], [49], [80], [83], [185], [183], [187], [193], [195], [197], [199], [191], [189], [201], [181], [109], [113], [115], [111], [85], [87], [249], [251], [253], [255], [279], [281]]
def pF_8 : List (List Nat) := [[916], [917], [918], [919], [922], [923], [924], [925], [926], [927], [928], [929], [930], [931], [932], [933], [934], [935], [936], [937], [938], [939], [940], [948], [949], [950], [954], [955], [956], [957], [921], [943], [944], [945], [946], [941], [942], [947], [951], [953], [952], [920]]
def ckF (o : Nat) (x : Nat × Nat × Nat) (p : List Nat) : Bool := match vwCl[x.2.1]?, p with
  | some (_, T, N), [p] => decide (x.2.2 < N) && decide (N = gNf x.2.1) && ckT p (.fieldLink (gCn o) x.1 (T x.2.2).1 (T x.2.2).2.1 (T x.2.2).2.2.1)
  | _, _ => false
set_option maxRecDepth 100000 in
theorem tF_ck_0 : ckZ (ckF 0) tF_0 pF_0 = true := by decide +kernel
set_option maxRecDepth 100000 in
theorem tF_ck_1 : ckZ (ckF 1) tF_1 pF_1 = true := by decide +kernel
set_option maxRecDepth 100000 in
theorem tF_ck_2 : ckZ (ckF 2) tF_2 pF_2 = true := by decide +kernel
set_option maxRecDepth 100000 in
theorem tF_ck_3 : ckZ (ckF 3) tF_3 pF_3 = true := by decide +kernel
set_option maxRecDepth 100000 in
theorem tF_ck_4 : ckZ (ckF 4) tF_4 pF_4 = true := by decide +kernel
set_option maxRecDepth 100000 in
theorem tF_ck_5 : ckZ (ckF 5) tF_5 pF_5 = true := by decide +kernel
set_option maxRecDepth 100000 in
theorem tF_ck_6 : ckZ (ckF 6) tF_6 pF_6 = true := by decide +kernel
set_option maxRecDepth 100000 in
theorem tF_ck_7 : ckZ (ckF 7) tF_7 pF_7 = true := by decide +kernel
set_option maxRecDepth 100000 in
theorem tF_ck_8 : ckZ (ckF 8) tF_8 pF_8 = true := by decide +kernel
theorem tF_ck {o i : Nat} {x : Nat × Nat} (h : tF o i = some x) : ∃ p, ckF o (i, x) p = true := by
  unfold tF at h
  split at h
  · exact ckZ_ok tF_ck_0 _ (lkp_mem h)
  · exact ckZ_ok tF_ck_1 _ (lkp_mem h)
  · exact ckZ_ok tF_ck_2 _ (lkp_mem h)
  · exact ckZ_ok tF_ck_3 _ (lkp_mem h)
  · exact ckZ_ok tF_ck_4 _ (lkp_mem h)
  · exact ckZ_ok tF_ck_5 _ (lkp_mem h)
  · exact ckZ_ok tF_ck_6 _ (lkp_mem h)
  · exact ckZ_ok tF_ck_7 _ (lkp_mem h)
  · exact ckZ_ok tF_ck_8 _ (lkp_mem h)
  · cases h
def pSf_10 : List (List Nat) := [[1320], [1321]]
def ckSf (o : Nat) (x : Nat × Nat) (p : List Nat) : Bool := match p with
  | [p] => (x.2 == 0 && ckT p (.fieldLink (gCn o) x.1 "java/lang/String" "value" "[B")) || (x.2 == 1 && ckT p (.fieldLink (gCn o) x.1 "java/lang/String" "coder" "B"))
  | _ => false
set_option maxRecDepth 100000 in
theorem tSf_ck_10 : ckZ (ckSf 10) tSf_10 pSf_10 = true := by decide +kernel
theorem tSf_ck {o i : Nat} {x : Nat} (h : tSf o i = some x) : ∃ p, ckSf o (i, x) p = true := by
  unfold tSf at h
  split at h
  · exact ckZ_ok tSf_ck_10 _ (lkp_mem h)
  · cases h
def pC_0 : List (List Nat) := [[640]]
def pC_1 : List (List Nat) := [[385], [409]]
def pC_2 : List (List Nat) := [[339], [340]]
def pC_3 : List (List Nat) := [[648], [341], [347], [373]]
def pC_4 : List (List Nat) := [[694], [690], [691], [692], [693]]
def pC_7 : List (List Nat) := [[550], [527], [528]]
def pC_8 : List (List Nat) := [[830], [831], [832], [833], [1050], [854], [855], [885], [1057], [1058], [1059], [1079], [1080], [1081], [1082], [1103], [1119], [1128], [1141], [1206], [1223], [1224], [1237], [1254], [1255], [1306]]
def pC_9 : List (List Nat) := [[1319]]
def gTx (z : Int) : String := if z = -8 then "111.3.-3" else if z = -9 then ".-2.-1.3" else if z = -10 then "11111.3" else if z = -11 then "1.3" else ""
def ckC (o : Nat) (x : Nat × Nat × Int) (p : List Nat) : Bool := match p with
  | [p] => (x.2.1 == 0 && ckT p (.constant (gCn o) x.1 (Int32.ofInt x.2.2)) && decide (-2147483648 ≤ x.2.2 ∧ x.2.2 ≤ 2147483647)) || (x.2.1 == 1 && ckT p (.constantLong (gCn o) x.1 (Int64.ofInt x.2.2)) && decide (-9223372036854775808 ≤ x.2.2 ∧ x.2.2 ≤ 9223372036854775807)) || (x.2.1 == 2 && o == 4 && decide (tables_1[p]? = some (.stringRef "LegHedge$SetUp" x.1 (gTx x.2.2))) && decide (-12 ≤ x.2.2 ∧ x.2.2 ≤ -8))
  | _ => false
set_option maxRecDepth 100000 in
theorem tC_ck_0 : ckZ (ckC 0) tC_0 pC_0 = true := by decide +kernel
set_option maxRecDepth 100000 in
theorem tC_ck_1 : ckZ (ckC 1) tC_1 pC_1 = true := by decide +kernel
set_option maxRecDepth 100000 in
theorem tC_ck_2 : ckZ (ckC 2) tC_2 pC_2 = true := by decide +kernel
set_option maxRecDepth 100000 in
theorem tC_ck_3 : ckZ (ckC 3) tC_3 pC_3 = true := by decide +kernel
set_option maxRecDepth 100000 in
theorem tC_ck_4 : ckZ (ckC 4) tC_4 pC_4 = true := by decide +kernel
set_option maxRecDepth 100000 in
theorem tC_ck_7 : ckZ (ckC 7) tC_7 pC_7 = true := by decide +kernel
set_option maxRecDepth 100000 in
theorem tC_ck_8 : ckZ (ckC 8) tC_8 pC_8 = true := by decide +kernel
set_option maxRecDepth 100000 in
theorem tC_ck_9 : ckZ (ckC 9) tC_9 pC_9 = true := by decide +kernel
theorem tC_ck {o i : Nat} {x : Nat × Int} (h : tC o i = some x) : ∃ p, ckC o (i, x) p = true := by
  unfold tC at h
  split at h
  · exact ckZ_ok tC_ck_0 _ (lkp_mem h)
  · exact ckZ_ok tC_ck_1 _ (lkp_mem h)
  · exact ckZ_ok tC_ck_2 _ (lkp_mem h)
  · exact ckZ_ok tC_ck_3 _ (lkp_mem h)
  · exact ckZ_ok tC_ck_4 _ (lkp_mem h)
  · exact ckZ_ok tC_ck_7 _ (lkp_mem h)
  · exact ckZ_ok tC_ck_8 _ (lkp_mem h)
  · exact ckZ_ok tC_ck_9 _ (lkp_mem h)
  · cases h
def pN_0 : List (List Nat) := [[37, 38, 4]]
def pN_3 : List (List Nat) := [[31, 32, 3], [101, 102, 5], [167, 168, 6]]
def pN_7 : List (List Nat) := [[25, 26, 2], [239, 32, 3], [241, 242, 7], [271, 272, 8]]
def pN_9 : List (List Nat) := [[17, 18, 1], [824, 825, 11]]
def ckN (o : Nat) (x : Nat × Nat) (p : List Nat) : Bool := match vwCl[x.2]?, p with
  | some (C, _, N), [p, q, r] => decide (x.2 < 9) && decide (N = gNf x.2) && ckT p (.classLink (gCn o) x.1 C) && ckT q (.instantiable C N) && ckT r (.initialized C)
  | _, _ => false
set_option maxRecDepth 100000 in
theorem tN_ck_0 : ckZ (ckN 0) tN_0 pN_0 = true := by decide +kernel
set_option maxRecDepth 100000 in
theorem tN_ck_3 : ckZ (ckN 3) tN_3 pN_3 = true := by decide +kernel
set_option maxRecDepth 100000 in
theorem tN_ck_7 : ckZ (ckN 7) tN_7 pN_7 = true := by decide +kernel
set_option maxRecDepth 100000 in
theorem tN_ck_9 : ckZ (ckN 9) tN_9 pN_9 = true := by decide +kernel
theorem tN_ck {o i : Nat} {x : Nat} (h : tN o i = some x) : ∃ p, ckN o (i, x) p = true := by
  unfold tN at h
  split at h
  · exact ckZ_ok tN_ck_0 _ (lkp_mem h)
  · exact ckZ_ok tN_ck_3 _ (lkp_mem h)
  · exact ckZ_ok tN_ck_7 _ (lkp_mem h)
  · exact ckZ_ok tN_ck_9 _ (lkp_mem h)
  · cases h
def pA_3 : List (List Nat) := [[163], [165]]
def pA_4 : List (List Nat) := [[247]]
def pA_6 : List (List Nat) := [[277]]
def ckA (o : Nat) (x : Nat × Nat) (p : List Nat) : Bool := match p with
  | [p] => (x.2 == 100 && ckT p (.classLink (gCn o) x.1 "[[I")) || (x.2 == 101 && ckT p (.classLink (gCn o) x.1 "[[J"))
  | _ => false
set_option maxRecDepth 100000 in
theorem tA_ck_3 : ckZ (ckA 3) tA_3 pA_3 = true := by decide +kernel
set_option maxRecDepth 100000 in
theorem tA_ck_4 : ckZ (ckA 4) tA_4 pA_4 = true := by decide +kernel
set_option maxRecDepth 100000 in
theorem tA_ck_6 : ckZ (ckA 6) tA_6 pA_6 = true := by decide +kernel
theorem tA_ck {o i : Nat} {x : Nat} (h : tA o i = some x) : ∃ p, ckA o (i, x) p = true := by
  unfold tA at h
  split at h
  · exact ckZ_ok tA_ck_3 _ (lkp_mem h)
  · exact ckZ_ok tA_ck_4 _ (lkp_mem h)
  · exact ckZ_ok tA_ck_6 _ (lkp_mem h)
  · cases h
def pG_0 : List (List Nat) := [[69], [665], [666]]
def pG_1 : List (List Nat) := [[602]]
def pG_7 : List (List Nat) := [[456], [458], [563]]
def pG_10 : List (List Nat) := [[707], [723]]
/-- statics: class, name, descriptor, what the plain machine has there -/
def gSt : List (String × String × String × Nat × Int) := [("LegHedge", "AT_FIRST", "[I", 2, -3), ("LegHedge", "LEAST", "[I", 2, -4), ("LegHedge", "MOST", "[I", 2, -5), ("LegHedge", "ORDERS", "[I", 2, -7), ("LegHedge", "UNDER", "[I", 2, -6), ("java/lang/String", "COMPACT_STRINGS", "Z", 0, 1), ("jdk/internal/util/Preconditions", "SIOOBE_FORMATTER", "Ljava/util/function/BiFunction;", 4, 0)]
def ckG (o : Nat) (x : Nat × Nat × Int) (p : List Nat) : Bool := match p with
  | [p] => gSt.any (fun q => decide (q.2.2.2 = x.2) && (ckT p (.fieldLink (gCn o) x.1 q.1 q.2.1 q.2.2.1) || decide (Cond.fieldLinkNest (gCn o) x.1 q.1 q.2.1 q.2.2.1 "LegHedge" ∈ gNW)))
  | _ => false
set_option maxRecDepth 100000 in
theorem tG_ck_0 : ckZ (ckG 0) tG_0 pG_0 = true := by decide +kernel
set_option maxRecDepth 100000 in
theorem tG_ck_1 : ckZ (ckG 1) tG_1 pG_1 = true := by decide +kernel
set_option maxRecDepth 100000 in
theorem tG_ck_7 : ckZ (ckG 7) tG_7 pG_7 = true := by decide +kernel
set_option maxRecDepth 100000 in
theorem tG_ck_10 : ckZ (ckG 10) tG_10 pG_10 = true := by decide +kernel
theorem tG_ck {o i : Nat} {x : Nat × Int} (h : tG o i = some x) : ∃ p, ckG o (i, x) p = true := by
  unfold tG at h
  split at h
  · exact ckZ_ok tG_ck_0 _ (lkp_mem h)
  · exact ckZ_ok tG_ck_1 _ (lkp_mem h)
  · exact ckZ_ok tG_ck_7 _ (lkp_mem h)
  · exact ckZ_ok tG_ck_10 _ (lkp_mem h)
  · cases h
def pI_0 : List (List Nat) := [[36], [310], [329], [332]]
def pI_1 : List (List Nat) := [[106], [386], [396], [400]]
def pI_2 : List (List Nat) := [[172]]
def pI_3 : List (List Nat) := [[30], [352], [346], [374], [363], [370]]
def pI_4 : List (List Nat) := [[246], [755]]
def pI_5 : List (List Nat) := [[42], [468]]
def pI_6 : List (List Nat) := [[276]]
def pI_7 : List (List Nat) := [[22], [823]]
def pI_8 : List (List Nat) := [[829], [868], [883], [884], [896], [891], [899], [890]]
def gIn (k : Nat) : MethodName := match k with
  | 11 => Lib.Math.max.name
  | 12 => Lib.Math.min.name
  | 13 => Lib.Math.abs.name
  | 14 => Lib.MathLoose.max_long.x
  | 15 => Lib.MathLoose.min_long.x
  | 16 => Lib.MathLoose.abs_long.x
  | 17 => arraycopyName
  | 18 => yJ13_signum_95d88
  | _ => objectInit
def ckI (o : Nat) (x : Nat × Nat) (p : List Nat) : Bool := match p with
  | [p] => decide (11 ≤ x.2 ∧ x.2 ≤ 19) && ckT p (.methodLink (gCn o) x.1 (gIn x.2))
  | _ => false
set_option maxRecDepth 100000 in
theorem tI_ck_0 : ckZ (ckI 0) tI_0 pI_0 = true := by decide +kernel
set_option maxRecDepth 100000 in
theorem tI_ck_1 : ckZ (ckI 1) tI_1 pI_1 = true := by decide +kernel
set_option maxRecDepth 100000 in
theorem tI_ck_2 : ckZ (ckI 2) tI_2 pI_2 = true := by decide +kernel
set_option maxRecDepth 100000 in
theorem tI_ck_3 : ckZ (ckI 3) tI_3 pI_3 = true := by decide +kernel
set_option maxRecDepth 100000 in
theorem tI_ck_4 : ckZ (ckI 4) tI_4 pI_4 = true := by decide +kernel
set_option maxRecDepth 100000 in
theorem tI_ck_5 : ckZ (ckI 5) tI_5 pI_5 = true := by decide +kernel
set_option maxRecDepth 100000 in
theorem tI_ck_6 : ckZ (ckI 6) tI_6 pI_6 = true := by decide +kernel
set_option maxRecDepth 100000 in
theorem tI_ck_7 : ckZ (ckI 7) tI_7 pI_7 = true := by decide +kernel
set_option maxRecDepth 100000 in
theorem tI_ck_8 : ckZ (ckI 8) tI_8 pI_8 = true := by decide +kernel
theorem tI_ck {o i : Nat} {x : Nat} (h : tI o i = some x) : ∃ p, ckI o (i, x) p = true := by
  unfold tI at h
  split at h
  · exact ckZ_ok tI_ck_0 _ (lkp_mem h)
  · exact ckZ_ok tI_ck_1 _ (lkp_mem h)
  · exact ckZ_ok tI_ck_2 _ (lkp_mem h)
  · exact ckZ_ok tI_ck_3 _ (lkp_mem h)
  · exact ckZ_ok tI_ck_4 _ (lkp_mem h)
  · exact ckZ_ok tI_ck_5 _ (lkp_mem h)
  · exact ckZ_ok tI_ck_6 _ (lkp_mem h)
  · exact ckZ_ok tI_ck_7 _ (lkp_mem h)
  · exact ckZ_ok tI_ck_8 _ (lkp_mem h)
  · cases h
/-- what is said of each class -/
def ckCl (ci : Nat) (x : vw_C) (ps : List Nat) : Bool := decide (x.2.2 = gNf ci) && decide (∀ k, k < x.2.2 → parseFieldDescriptor (x.2.1 k).2.2.1 = some (gFt ci k)) && decide (∀ a, a < x.2.2 → ∀ b, b < x.2.2 → a ≠ b → (x.2.1 a).2.1 ≠ (x.2.1 b).2.1) && decide ((u_ws x.1 x.2.1 x.2.2).length = ps.length) && ((u_ws x.1 x.2.1 x.2.2).zip ps).all (fun q => ckT q.2 q.1) && decide (∀ k, k < x.2.2 → ((x.2.1 k).2.2.2 = gFin ci k))
set_option maxRecDepth 100000 in
theorem cl_ck_0 : ckCl 0 (RX0, TX0, 6) [88, 90, 92, 94, 96, 98] = true := by decide +kernel
set_option maxRecDepth 100000 in
theorem cl_ck_1 : ckCl 1 (RX1, TX1, 16) [128, 130, 132, 134, 136, 138, 140, 142, 144, 146, 148, 150, 152, 154, 156, 158] = true := by decide +kernel
set_option maxRecDepth 100000 in
theorem cl_ck_2 : ckCl 2 (RX2, TX2, 1) [175] = true := by decide +kernel
set_option maxRecDepth 100000 in
theorem cl_ck_3 : ckCl 3 (RX3, TX3, 16) [206, 208, 210, 212, 214, 216, 218, 220, 222, 224, 226, 228, 230, 232, 234, 236] = true := by decide +kernel
set_option maxRecDepth 100000 in
theorem cl_ck_4 : ckCl 4 (RX4, TX4, 6) [258, 260, 262, 264, 266, 268] = true := by decide +kernel
set_option maxRecDepth 100000 in
theorem cl_ck_5 : ckCl 5 (RX5, TX5, 4) [51, 53, 55, 57] = true := by decide +kernel
set_option maxRecDepth 100000 in
theorem cl_ck_6 : ckCl 6 (RX6, TX6, 3) [283, 285, 287] = true := by decide +kernel
set_option maxRecDepth 100000 in
theorem cl_ck_7 : ckCl 7 (RX7, TX7, 7) [422, 424, 426, 428, 430, 432, 434] = true := by decide +kernel
set_option maxRecDepth 100000 in
theorem cl_ck_8 : ckCl 8 (RX8, TX8, 42) [958, 960, 962, 964, 966, 968, 970, 972, 974, 976, 978, 980, 982, 984, 986, 988, 990, 992, 994, 996, 998, 1000, 1002, 1004, 1006, 1008, 1010, 1012, 1014, 1016, 1018, 1020, 1022, 1024, 1026, 1028, 1030, 1032, 1034, 1036, 1038, 1040] = true := by decide +kernel
theorem cl_all {ci : Nat} {x : vw_C} (h : vwCl[ci]? = some x) : ∃ ps, ckCl ci x ps = true := by
  match ci, h with
  | 0, h => cases h; exact ⟨_, cl_ck_0⟩
  | 1, h => cases h; exact ⟨_, cl_ck_1⟩
  | 2, h => cases h; exact ⟨_, cl_ck_2⟩
  | 3, h => cases h; exact ⟨_, cl_ck_3⟩
  | 4, h => cases h; exact ⟨_, cl_ck_4⟩
  | 5, h => cases h; exact ⟨_, cl_ck_5⟩
  | 6, h => cases h; exact ⟨_, cl_ck_6⟩
  | 7, h => cases h; exact ⟨_, cl_ck_7⟩
  | 8, h => cases h; exact ⟨_, cl_ck_8⟩
  | ci + 9, h => simp [vwCl] at h
theorem cl_ok {ci : Nat} {C : String} {T : u_T} {N : Nat} (h : vwCl[ci]? = some (C, T, N)) : ci < 9 ∧ N = gNf ci ∧ (∀ k, k < N → parseFieldDescriptor (T k).2.2.1 = some (gFt ci k)) ∧ (∀ a, a < N → ∀ b, b < N → a ≠ b → (T a).2.1 ≠ (T b).2.1) ∧ (∀ w ∈ u_ws C T N, w ∈ gAW) ∧ ∀ k, k < N → (T k).2.2.2 = gFin ci k := by
  have hlt : ci < 9 := (List.getElem?_eq_some_iff.mp h).1
  obtain ⟨ps, hp⟩ := cl_all h
  simp only [ckCl, Bool.and_eq_true, decide_eq_true_eq, List.all_eq_true] at hp
  obtain ⟨⟨⟨⟨⟨h1, h2⟩, h3⟩, h4⟩, h5⟩, h6⟩ := hp
  refine ⟨hlt, h1, h2, h3, fun w hw => ?_, h6⟩
  obtain ⟨i, hi⟩ := List.getElem?_of_mem hw
  have hl : i < ps.length := by rw [← h4]; exact (List.getElem?_eq_some_iff.mp hi).1
  have hz : ((u_ws C T N).zip ps)[i]? = some (w, ps[i]) := by
    rw [List.getElem?_zip_eq_some]
    exact ⟨hi, by simp [hl]⟩
  exact ckT_ok (h5 _ (List.mem_of_getElem? hz))
theorem own_ck_0 : ∀ j, j < 6 → (TX0 j).1 = gCn 0 := by decide +kernel
theorem own_ck_1 : ∀ j, j < 16 → (TX1 j).1 = gCn 1 := by decide +kernel
theorem own_ck_2 : ∀ j, j < 1 → (TX2 j).1 = gCn 2 := by decide +kernel
theorem own_ck_3 : ∀ j, j < 16 → (TX3 j).1 = gCn 3 := by decide +kernel
theorem own_ck_4 : ∀ j, j < 6 → (TX4 j).1 = gCn 4 := by decide +kernel
theorem own_ck_5 : ∀ j, j < 4 → (TX5 j).1 = gCn 5 := by decide +kernel
theorem own_ck_6 : ∀ j, j < 3 → (TX6 j).1 = gCn 6 := by decide +kernel
theorem own_ck_7 : ∀ j, j < 7 → (TX7 j).1 = gCn 7 := by decide +kernel
theorem own_ck_8 : ∀ j, j < 42 → (TX8 j).1 = gCn 8 := by decide +kernel
theorem cl_own {ci : Nat} {C : String} {T : u_T} {N j : Nat} (h : vwCl[ci]? = some (C, T, N)) (hj : j < N) : (T j).1 = gCn ci := by
  match ci, h with
  | 0, h => cases h; exact own_ck_0 j hj
  | 1, h => cases h; exact own_ck_1 j hj
  | 2, h => cases h; exact own_ck_2 j hj
  | 3, h => cases h; exact own_ck_3 j hj
  | 4, h => cases h; exact own_ck_4 j hj
  | 5, h => cases h; exact own_ck_5 j hj
  | 6, h => cases h; exact own_ck_6 j hj
  | 7, h => cases h; exact own_ck_7 j hj
  | 8, h => cases h; exact own_ck_8 j hj
  | ci + 9, h => simp [vwCl] at h
