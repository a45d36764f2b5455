/-! WHAT THE METHODS REST ON, out of the claim's premises (laid by wip/whole/mkenv.py) -/
def zNR : List Cond := flatC (Jvm.Cond.and given_1 narrow_1)
theorem zNr {args : Array Value} {s : State} (h : (Jvm.Cond.and given_1 narrow_1).before args s = true) {w : Cond} (i : Nat) (hi : zNR[i]? = some w) : w.before args s = true := flat_of_before _ h w (List.mem_of_getElem? hi)
section ENV
variable {args : Array Value} {s : State} {A : Nat → Prop}
theorem zRof {own : String} {ix : Nat} {tx : String} (h1 : (Cond.stringRef own ix tx).before args s = true) (h2 : (Cond.exactly (.string own ix) "java/lang/String").before args s = true) : ∃ sa, vk_R own ix tx sa s := by
  obtain ⟨a, c, cA, kA, q1, -⟩ := Cond.exactly_spec (args := args) (first := s) (o := none) (s := s) (idx := []) (t := .string own ix) (cls := "java/lang/String") h2
  exact ⟨a, vk_R.of h1 q1⟩
theorem zKof {own : String} {ix : Nat} {tx : String} {l : List Int32} (hl : l.length < 2 ^ 31) (h1 : (Cond.stringRef own ix tx).before args s = true) (h2 : (Cond.exactly (.string own ix) "java/lang/String").before args s = true) (h3 : (Cond.eq (.field (.string own ix) "java/lang/String" "coder" "B") (.int 0)).before args s = true) (h4 : (Cond.arrayOf (.field (.string own ix) "java/lang/String" "value" "[B") .byte).before args s = true) (h5 : (Cond.eq (.length (.field (.string own ix) "java/lang/String" "value" "[B")) (.int (Int32.ofNat l.length))).before args s = true)
    (h6 : ∀ j : Nat, j < l.length → (Cond.eq (.elem (.field (.string own ix) "java/lang/String" "value" "[B") (.int (Int32.ofNat j))) (.int (l.getD j 0))).before args s = true) (hA : ∀ a : Nat, a < s.heap.size → ¬ A a) : ∃ a, vk_R own ix tx a s ∧ zS a l A s s.heap := by
  obtain ⟨adK, adV, hS, hE⟩ := vk_Sof (args := args) (s := s) (N := 1) (tm := fun _ => .string own ix) (len := [l.length]) (byt := [l]) (A := A) (fun i hi => by rw [show i = 0 by omega]; exact hl) (fun _ _ => h2) (fun _ _ => h3) (fun _ _ => h4) (fun i hi => by rw [show i = 0 by omega]; exact h5) (fun i hi j hj => by
    obtain rfl : i = 0 := by omega
    exact h6 j hj) (fun i j hi hj hij => absurd (show i = j by omega) hij) hA
  refine ⟨adK 0, vk_R.of h1 (hE 0 (by decide)), adV 0, fun i hi => ?_, fun i j hi hj _ => by omega⟩
  obtain rfl : i = 0 := by omega
  exact hS.1 0 (by decide)
theorem zTof {C n d : String} {ty : FieldType} {N : Nat} {f : Nat → Int32} (hN : N < 2 ^ 31) (hl : (Cond.laysStatic C n d).before args s = true) (hini : (Cond.initialized C).before args s = true) (h4 : (Cond.arrayOf (.static C n d) ty).before args s = true) (h5 : (Cond.eq (.length (.static C n d)) (.int (Int32.ofNat N))).before args s = true) (h6 : ∀ j : Nat, j < N → (Cond.eq (.elem (.static C n d) (.int (Int32.ofNat j))) (.int (f j))).before args s = true) (hA : ∀ a : Nat, a < s.heap.size → ¬ A a) : ∃ t, va_Z C n d (.ref t) A s s.heap ∧ va_T ty t N (fun j => .int (f j)) A s s.heap := by
  obtain ⟨t, h7, h8⟩ := va_Tof (tm := .static C n d) (f := fun j => .int (f j)) hN h4 (va_eqt h5) (fun j hj => va_eqt (h6 j hj)) hA
  exact ⟨t, va_Zof hl hini h7 hA, h8⟩
set_option maxRecDepth 100000 in
set_option maxHeartbeats 8000000 in
theorem zk5_351 (hts : ∀ w ∈ lw_tbl, w.before args s = true) (hgv : (Jvm.Cond.and given_1 narrow_1).before args s = true) (hA : ∀ a : Nat, a < s.heap.size → ¬ A a) : zK5 351 "closed: " zT351 A s s.heap := zKof (own := RX5) (ix := 351) (tx := "closed: ") (l := zT351) (by decide) (hts _ (z_t6 (List.mem_of_getElem? (i := 23) (by decide +kernel)))) (zNr hgv 1635 (by decide +kernel)) (zNr hgv 1636 (by decide +kernel)) (zNr hgv 1637 (by decide +kernel)) (zNr hgv 1638 (by decide +kernel)) (fun j hj => zNr hgv (1639 + j) ((show ∀ j, j < 8 → zNR[1639 + j]? = some (Cond.eq (.elem (.field (.string RX5 351) "java/lang/String" "value" "[B") (.int (Int32.ofNat j))) (.int ((zT351 : List Int32).getD j 0))) by decide +kernel) j hj)) hA
set_option maxRecDepth 100000 in
set_option maxHeartbeats 8000000 in
theorem zk5_357 (hts : ∀ w ∈ lw_tbl, w.before args s = true) (hgv : (Jvm.Cond.and given_1 narrow_1).before args s = true) (hA : ∀ a : Nat, a < s.heap.size → ¬ A a) : zK5 357 "none" zT357 A s s.heap := zKof (own := RX5) (ix := 357) (tx := "none") (l := zT357) (by decide) (hts _ (z_t6 (List.mem_of_getElem? (i := 25) (by decide +kernel)))) (zNr hgv 1647 (by decide +kernel)) (zNr hgv 1648 (by decide +kernel)) (zNr hgv 1649 (by decide +kernel)) (zNr hgv 1650 (by decide +kernel)) (fun j hj => zNr hgv (1651 + j) ((show ∀ j, j < 4 → zNR[1651 + j]? = some (Cond.eq (.elem (.field (.string RX5 357) "java/lang/String" "value" "[B") (.int (Int32.ofNat j))) (.int ((zT357 : List Int32).getD j 0))) by decide +kernel) j hj)) hA
set_option maxRecDepth 100000 in
set_option maxHeartbeats 8000000 in
theorem zk5_359 (hts : ∀ w ∈ lw_tbl, w.before args s = true) (hgv : (Jvm.Cond.and given_1 narrow_1).before args s = true) (hA : ∀ a : Nat, a < s.heap.size → ¬ A a) : zK5 359 ", " zT359 A s s.heap := zKof (own := RX5) (ix := 359) (tx := ", ") (l := zT359) (by decide) (hts _ (z_t6 (List.mem_of_getElem? (i := 26) (by decide +kernel)))) (zNr hgv 1655 (by decide +kernel)) (zNr hgv 1656 (by decide +kernel)) (zNr hgv 1657 (by decide +kernel)) (zNr hgv 1658 (by decide +kernel)) (fun j hj => zNr hgv (1659 + j) ((show ∀ j, j < 2 → zNR[1659 + j]? = some (Cond.eq (.elem (.field (.string RX5 359) "java/lang/String" "value" "[B") (.int (Int32.ofNat j))) (.int ((zT359 : List Int32).getD j 0))) by decide +kernel) j hj)) hA
set_option maxRecDepth 100000 in
set_option maxHeartbeats 8000000 in
theorem zk5_449 (hts : ∀ w ∈ lw_tbl, w.before args s = true) (hgv : (Jvm.Cond.and given_1 narrow_1).before args s = true) (hA : ∀ a : Nat, a < s.heap.size → ¬ A a) : zK5 449 " f" zT449 A s s.heap := zKof (own := RX5) (ix := 449) (tx := " f") (l := zT449) (by decide) (hts _ (z_t6 (List.mem_of_getElem? (i := 54) (by decide +kernel)))) (zNr hgv 1661 (by decide +kernel)) (zNr hgv 1662 (by decide +kernel)) (zNr hgv 1663 (by decide +kernel)) (zNr hgv 1664 (by decide +kernel)) (fun j hj => zNr hgv (1665 + j) ((show ∀ j, j < 2 → zNR[1665 + j]? = some (Cond.eq (.elem (.field (.string RX5 449) "java/lang/String" "value" "[B") (.int (Int32.ofNat j))) (.int ((zT449 : List Int32).getD j 0))) by decide +kernel) j hj)) hA
set_option maxRecDepth 100000 in
set_option maxHeartbeats 8000000 in
theorem zk6_255 (hts : ∀ w ∈ lw_tbl, w.before args s = true) (hgv : (Jvm.Cond.and given_1 narrow_1).before args s = true) (hA : ∀ a : Nat, a < s.heap.size → ¬ A a) : zK6 255 "closed: " zT351 A s s.heap := zKof (own := RX6) (ix := 255) (tx := "closed: ") (l := zT351) (by decide) (hts _ (z_t8 (List.mem_of_getElem? (i := 111) (by decide +kernel)))) (zNr hgv 1933 (by decide +kernel)) (zNr hgv 1934 (by decide +kernel)) (zNr hgv 1935 (by decide +kernel)) (zNr hgv 1936 (by decide +kernel)) (fun j hj => zNr hgv (1937 + j) ((show ∀ j, j < 8 → zNR[1937 + j]? = some (Cond.eq (.elem (.field (.string RX6 255) "java/lang/String" "value" "[B") (.int (Int32.ofNat j))) (.int ((zT351 : List Int32).getD j 0))) by decide +kernel) j hj)) hA
set_option maxRecDepth 100000 in
set_option maxHeartbeats 8000000 in
theorem zk6_264 (hts : ∀ w ∈ lw_tbl, w.before args s = true) (hgv : (Jvm.Cond.and given_1 narrow_1).before args s = true) (hA : ∀ a : Nat, a < s.heap.size → ¬ A a) : zK6 264 "none" zT357 A s s.heap := zKof (own := RX6) (ix := 264) (tx := "none") (l := zT357) (by decide) (hts _ (z_t8 (List.mem_of_getElem? (i := 126) (by decide +kernel)))) (zNr hgv 1946 (by decide +kernel)) (zNr hgv 1947 (by decide +kernel)) (zNr hgv 1948 (by decide +kernel)) (zNr hgv 1949 (by decide +kernel)) (fun j hj => zNr hgv (1950 + j) ((show ∀ j, j < 4 → zNR[1950 + j]? = some (Cond.eq (.elem (.field (.string RX6 264) "java/lang/String" "value" "[B") (.int (Int32.ofNat j))) (.int ((zT357 : List Int32).getD j 0))) by decide +kernel) j hj)) hA
set_option maxRecDepth 100000 in
set_option maxHeartbeats 8000000 in
theorem zk6_270 (hts : ∀ w ∈ lw_tbl, w.before args s = true) (hgv : (Jvm.Cond.and given_1 narrow_1).before args s = true) (hA : ∀ a : Nat, a < s.heap.size → ¬ A a) : zK6 270 " f" zT449 A s s.heap := zKof (own := RX6) (ix := 270) (tx := " f") (l := zT449) (by decide) (hts _ (z_t8 (List.mem_of_getElem? (i := 131) (by decide +kernel)))) (zNr hgv 1955 (by decide +kernel)) (zNr hgv 1956 (by decide +kernel)) (zNr hgv 1957 (by decide +kernel)) (zNr hgv 1958 (by decide +kernel)) (fun j hj => zNr hgv (1959 + j) ((show ∀ j, j < 2 → zNR[1959 + j]? = some (Cond.eq (.elem (.field (.string RX6 270) "java/lang/String" "value" "[B") (.int (Int32.ofNat j))) (.int ((zT449 : List Int32).getD j 0))) by decide +kernel) j hj)) hA
set_option maxRecDepth 100000 in
set_option maxHeartbeats 8000000 in
theorem zk6_272 (hts : ∀ w ∈ lw_tbl, w.before args s = true) (hgv : (Jvm.Cond.and given_1 narrow_1).before args s = true) (hA : ∀ a : Nat, a < s.heap.size → ¬ A a) : zK6 272 ", " zT359 A s s.heap := zKof (own := RX6) (ix := 272) (tx := ", ") (l := zT359) (by decide) (hts _ (z_t8 (List.mem_of_getElem? (i := 132) (by decide +kernel)))) (zNr hgv 1962 (by decide +kernel)) (zNr hgv 1963 (by decide +kernel)) (zNr hgv 1964 (by decide +kernel)) (zNr hgv 1965 (by decide +kernel)) (fun j hj => zNr hgv (1966 + j) ((show ∀ j, j < 2 → zNR[1966 + j]? = some (Cond.eq (.elem (.field (.string RX6 272) "java/lang/String" "value" "[B") (.int (Int32.ofNat j))) (.int ((zT359 : List Int32).getD j 0))) by decide +kernel) j hj)) hA
set_option maxRecDepth 100000 in
set_option maxHeartbeats 8000000 in
theorem zk6_280 (hts : ∀ w ∈ lw_tbl, w.before args s = true) (hgv : (Jvm.Cond.and given_1 narrow_1).before args s = true) (hA : ∀ a : Nat, a < s.heap.size → ¬ A a) : zK6 280 "plan" zT280 A s s.heap := zKof (own := RX6) (ix := 280) (tx := "plan") (l := zT280) (by decide) (hts _ (z_t8 (List.mem_of_getElem? (i := 156) (by decide +kernel)))) (zNr hgv 1969 (by decide +kernel)) (zNr hgv 1970 (by decide +kernel)) (zNr hgv 1971 (by decide +kernel)) (zNr hgv 1972 (by decide +kernel)) (fun j hj => zNr hgv (1973 + j) ((show ∀ j, j < 4 → zNR[1973 + j]? = some (Cond.eq (.elem (.field (.string RX6 280) "java/lang/String" "value" "[B") (.int (Int32.ofNat j))) (.int ((zT280 : List Int32).getD j 0))) by decide +kernel) j hj)) hA
set_option maxRecDepth 100000 in
set_option maxHeartbeats 8000000 in
theorem zk6_282 (hts : ∀ w ∈ lw_tbl, w.before args s = true) (hgv : (Jvm.Cond.and given_1 narrow_1).before args s = true) (hA : ∀ a : Nat, a < s.heap.size → ¬ A a) : zK6 282 "sell" zT282 A s s.heap := zKof (own := RX6) (ix := 282) (tx := "sell") (l := zT282) (by decide) (hts _ (z_t8 (List.mem_of_getElem? (i := 157) (by decide +kernel)))) (zNr hgv 1977 (by decide +kernel)) (zNr hgv 1978 (by decide +kernel)) (zNr hgv 1979 (by decide +kernel)) (zNr hgv 1980 (by decide +kernel)) (fun j hj => zNr hgv (1981 + j) ((show ∀ j, j < 4 → zNR[1981 + j]? = some (Cond.eq (.elem (.field (.string RX6 282) "java/lang/String" "value" "[B") (.int (Int32.ofNat j))) (.int ((zT282 : List Int32).getD j 0))) by decide +kernel) j hj)) hA
set_option maxRecDepth 100000 in
set_option maxHeartbeats 8000000 in
theorem zk6_284 (hts : ∀ w ∈ lw_tbl, w.before args s = true) (hgv : (Jvm.Cond.and given_1 narrow_1).before args s = true) (hA : ∀ a : Nat, a < s.heap.size → ¬ A a) : zK6 284 "drop" zT284 A s s.heap := zKof (own := RX6) (ix := 284) (tx := "drop") (l := zT284) (by decide) (hts _ (z_t8 (List.mem_of_getElem? (i := 158) (by decide +kernel)))) (zNr hgv 1985 (by decide +kernel)) (zNr hgv 1986 (by decide +kernel)) (zNr hgv 1987 (by decide +kernel)) (zNr hgv 1988 (by decide +kernel)) (fun j hj => zNr hgv (1989 + j) ((show ∀ j, j < 4 → zNR[1989 + j]? = some (Cond.eq (.elem (.field (.string RX6 284) "java/lang/String" "value" "[B") (.int (Int32.ofNat j))) (.int ((zT284 : List Int32).getD j 0))) by decide +kernel) j hj)) hA
set_option maxRecDepth 100000 in
set_option maxHeartbeats 8000000 in
theorem zk6_286 (hts : ∀ w ∈ lw_tbl, w.before args s = true) (hgv : (Jvm.Cond.and given_1 narrow_1).before args s = true) (hA : ∀ a : Nat, a < s.heap.size → ¬ A a) : zK6 286 "fail" zT286 A s s.heap := zKof (own := RX6) (ix := 286) (tx := "fail") (l := zT286) (by decide) (hts _ (z_t8 (List.mem_of_getElem? (i := 159) (by decide +kernel)))) (zNr hgv 1993 (by decide +kernel)) (zNr hgv 1994 (by decide +kernel)) (zNr hgv 1995 (by decide +kernel)) (zNr hgv 1996 (by decide +kernel)) (fun j hj => zNr hgv (1997 + j) ((show ∀ j, j < 4 → zNR[1997 + j]? = some (Cond.eq (.elem (.field (.string RX6 286) "java/lang/String" "value" "[B") (.int (Int32.ofNat j))) (.int ((zT286 : List Int32).getD j 0))) by decide +kernel) j hj)) hA
set_option maxRecDepth 100000 in
set_option maxHeartbeats 8000000 in
theorem zk6_288 (hts : ∀ w ∈ lw_tbl, w.before args s = true) (hgv : (Jvm.Cond.and given_1 narrow_1).before args s = true) (hA : ∀ a : Nat, a < s.heap.size → ¬ A a) : zK6 288 "days" zT288 A s s.heap := zKof (own := RX6) (ix := 288) (tx := "days") (l := zT288) (by decide) (hts _ (z_t8 (List.mem_of_getElem? (i := 160) (by decide +kernel)))) (zNr hgv 2001 (by decide +kernel)) (zNr hgv 2002 (by decide +kernel)) (zNr hgv 2003 (by decide +kernel)) (zNr hgv 2004 (by decide +kernel)) (fun j hj => zNr hgv (2005 + j) ((show ∀ j, j < 4 → zNR[2005 + j]? = some (Cond.eq (.elem (.field (.string RX6 288) "java/lang/String" "value" "[B") (.int (Int32.ofNat j))) (.int ((zT288 : List Int32).getD j 0))) by decide +kernel) j hj)) hA
set_option maxRecDepth 100000 in
set_option maxHeartbeats 8000000 in
theorem zk1_80 (hts : ∀ w ∈ lw_tbl, w.before args s = true) (hgv : (Jvm.Cond.and given_1 narrow_1).before args s = true) (hA : ∀ a : Nat, a < s.heap.size → ¬ A a) : ∃ a, vk_R RX1 80 "planselldropfaildays" a s ∧ zS a zWords A s s.heap := zKof (own := RX1) (ix := 80) (tx := "planselldropfaildays") (l := zWords) (by decide) (hts _ (z_t6 (List.mem_of_getElem? (i := 109) (by decide +kernel)))) (zNr hgv 1754 (by decide +kernel)) (zNr hgv 1755 (by decide +kernel)) (zNr hgv 1756 (by decide +kernel)) (zNr hgv 1757 (by decide +kernel)) (fun j hj => zNr hgv (1758 + j) ((show ∀ j, j < 20 → zNR[1758 + j]? = some (Cond.eq (.elem (.field (.string RX1 80) "java/lang/String" "value" "[B") (.int (Int32.ofNat j))) (.int ((zWords : List Int32).getD j 0))) by decide +kernel) j hj)) hA
set_option maxRecDepth 100000 in
set_option maxHeartbeats 8000000 in
theorem zs_LOWEST_SETTINGS (hts : ∀ w ∈ lw_tbl, w.before args s = true) (hgv : (Jvm.Cond.and given_1 narrow_1).before args s = true) (hA : ∀ a : Nat, a < s.heap.size → ¬ A a) : zA5 "LOWEST_SETTINGS" zLo A s s.heap := zTof (C := "CinemaProgramme") (n := "LOWEST_SETTINGS") (d := "[I") (ty := .int) (N := 6) (f := (fun j => (zLo : List Int32).getD j 0)) (by decide) (hts _ (z_t2 (List.mem_of_getElem? (i := 223) (by decide +kernel)))) (hts _ (z_t1 (List.mem_of_getElem? (i := 1) (by decide +kernel)))) (zNr hgv 17 (by decide +kernel)) (zNr hgv 18 (by decide +kernel)) (fun j hj => zNr hgv (19 + j) ((show ∀ j, j < 6 → zNR[19 + j]? = some (Cond.eq (.elem (.static "CinemaProgramme" "LOWEST_SETTINGS" "[I") (.int (Int32.ofNat j))) (.int ((fun j => (zLo : List Int32).getD j 0) j))) by decide +kernel) j hj)) hA
set_option maxRecDepth 100000 in
set_option maxHeartbeats 8000000 in
theorem zs_HIGHEST_SETTINGS (hts : ∀ w ∈ lw_tbl, w.before args s = true) (hgv : (Jvm.Cond.and given_1 narrow_1).before args s = true) (hA : ∀ a : Nat, a < s.heap.size → ¬ A a) : zA5 "HIGHEST_SETTINGS" zHi A s s.heap := zTof (C := "CinemaProgramme") (n := "HIGHEST_SETTINGS") (d := "[I") (ty := .int) (N := 6) (f := (fun j => (zHi : List Int32).getD j 0)) (by decide) (hts _ (z_t2 (List.mem_of_getElem? (i := 225) (by decide +kernel)))) (hts _ (z_t1 (List.mem_of_getElem? (i := 1) (by decide +kernel)))) (zNr hgv 26 (by decide +kernel)) (zNr hgv 27 (by decide +kernel)) (fun j hj => zNr hgv (28 + j) ((show ∀ j, j < 6 → zNR[28 + j]? = some (Cond.eq (.elem (.static "CinemaProgramme" "HIGHEST_SETTINGS" "[I") (.int (Int32.ofNat j))) (.int ((fun j => (zHi : List Int32).getD j 0) j))) by decide +kernel) j hj)) hA
set_option maxRecDepth 100000 in
set_option maxHeartbeats 8000000 in
theorem zs_FIRST_SETTINGS (hts : ∀ w ∈ lw_tbl, w.before args s = true) (hgv : (Jvm.Cond.and given_1 narrow_1).before args s = true) (hA : ∀ a : Nat, a < s.heap.size → ¬ A a) : zA5 "FIRST_SETTINGS" [10, 2, 15, 10, 60, 10] A s s.heap := zTof (C := "CinemaProgramme") (n := "FIRST_SETTINGS") (d := "[I") (ty := .int) (N := 6) (f := (fun j => ([10, 2, 15, 10, 60, 10] : List Int32).getD j 0)) (by decide) (hts _ (z_t1 (List.mem_of_getElem? (i := 69) (by decide +kernel)))) (hts _ (z_t1 (List.mem_of_getElem? (i := 1) (by decide +kernel)))) (zNr hgv 5 (by decide +kernel)) (zNr hgv 6 (by decide +kernel)) (fun j hj => zNr hgv (7 + j) ((show ∀ j, j < 6 → zNR[7 + j]? = some (Cond.eq (.elem (.static "CinemaProgramme" "FIRST_SETTINGS" "[I") (.int (Int32.ofNat j))) (.int ((fun j => ([10, 2, 15, 10, 60, 10] : List Int32).getD j 0) j))) by decide +kernel) j hj)) hA
set_option maxRecDepth 100000 in
set_option maxHeartbeats 8000000 in
theorem zs_NUMBERS (hts : ∀ w ∈ lw_tbl, w.before args s = true) (hgv : (Jvm.Cond.and given_1 narrow_1).before args s = true) (hA : ∀ a : Nat, a < s.heap.size → ¬ A a) : ∃ t, va_Z "CinemaProgramme$Reader" "NUMBERS" "[I" (.ref t) A s s.heap ∧ va_T .int t 5 (fun j => .int (zNums.getD j 0)) A s s.heap := zTof (C := "CinemaProgramme$Reader") (n := "NUMBERS") (d := "[I") (ty := .int) (N := 5) (f := (fun j => zNums.getD j 0)) (by decide) (hts _ (z_t6 (List.mem_of_getElem? (i := 104) (by decide +kernel)))) (hts _ (z_t1 (List.mem_of_getElem? (i := 7) (by decide +kernel)))) (zNr hgv 245 (by decide +kernel)) (zNr hgv 246 (by decide +kernel)) (fun j hj => zNr hgv (247 + j) ((show ∀ j, j < 5 → zNR[247 + j]? = some (Cond.eq (.elem (.static "CinemaProgramme$Reader" "NUMBERS" "[I") (.int (Int32.ofNat j))) (.int ((fun j => zNums.getD j 0) j))) by decide +kernel) j hj)) hA
set_option maxRecDepth 100000 in
set_option maxHeartbeats 8000000 in
theorem zs_ones (hts : ∀ w ∈ lw_tbl, w.before args s = true) (hgv : (Jvm.Cond.and given_1 narrow_1).before args s = true) (hA : ∀ a : Nat, a < s.heap.size → ¬ A a) : ∃ t, va_Z "java/lang/Integer" "DigitOnes" "[B" (.ref t) A s s.heap ∧ va_T .byte t 100 (fun j => .int (nI (48 + j % 10))) A s s.heap := zTof (C := "java/lang/Integer") (n := "DigitOnes") (d := "[B") (ty := .byte) (N := 100) (f := (fun j => nI (48 + j % 10))) (by decide) (hts _ (z_t5 (List.mem_of_getElem? (i := 154) (by decide +kernel)))) (hts _ (z_t1 (List.mem_of_getElem? (i := 23) (by decide +kernel)))) (zNr hgv 39 (by decide +kernel)) (zNr hgv 40 (by decide +kernel)) (fun j hj => zNr hgv (41 + j) ((show ∀ j, j < 100 → zNR[41 + j]? = some (Cond.eq (.elem (.static "java/lang/Integer" "DigitOnes" "[B") (.int (Int32.ofNat j))) (.int ((fun j => nI (48 + j % 10)) j))) by decide +kernel) j hj)) hA
set_option maxRecDepth 100000 in
set_option maxHeartbeats 8000000 in
theorem zs_tens (hts : ∀ w ∈ lw_tbl, w.before args s = true) (hgv : (Jvm.Cond.and given_1 narrow_1).before args s = true) (hA : ∀ a : Nat, a < s.heap.size → ¬ A a) : ∃ t, va_Z "java/lang/Integer" "DigitTens" "[B" (.ref t) A s s.heap ∧ va_T .byte t 100 (fun j => .int (nI (48 + j / 10))) A s s.heap := zTof (C := "java/lang/Integer") (n := "DigitTens") (d := "[B") (ty := .byte) (N := 100) (f := (fun j => nI (48 + j / 10))) (by decide) (hts _ (z_t5 (List.mem_of_getElem? (i := 156) (by decide +kernel)))) (hts _ (z_t1 (List.mem_of_getElem? (i := 23) (by decide +kernel)))) (zNr hgv 142 (by decide +kernel)) (zNr hgv 143 (by decide +kernel)) (fun j hj => zNr hgv (144 + j) ((show ∀ j, j < 100 → zNR[144 + j]? = some (Cond.eq (.elem (.static "java/lang/Integer" "DigitTens" "[B") (.int (Int32.ofNat j))) (.int ((fun j => nI (48 + j / 10)) j))) by decide +kernel) j hj)) hA
set_option maxRecDepth 100000 in
set_option maxHeartbeats 8000000 in
theorem zs_sel (hts : ∀ w ∈ lw_tbl, w.before args s = true) (hgv : (Jvm.Cond.and given_1 narrow_1).before args s = true) : ∀ w ∈ zSelW, w.before #[] s = true := by
  intro w hw
  simp only [zSelW, List.mem_cons, List.not_mem_nil, or_false] at hw
  rcases hw with rfl | rfl | rfl | rfl
  · exact va_Nw.of rfl (z_selP (C := RJ4) (n := 4) (y := yJ5_ensureCapacityInternal_d00df) (yI := yJ5_isLatin1_aae02) (args := args) (s := s) (by decide) (by decide) rfl (hts _ (z_t1 (List.mem_of_getElem? (i := 170) (by decide +kernel)))) (hts _ (z_t5 (List.mem_of_getElem? (i := 38) (by decide +kernel)))) (hts _ (z_t5 (List.mem_of_getElem? (i := 39) (by decide +kernel)))) (hts _ (z_t5 (List.mem_of_getElem? (i := 69) (by decide +kernel)))) (hts _ (z_t5 (List.mem_of_getElem? (i := 67) (by decide +kernel)))))
  · exact va_Nw.of rfl (z_selP (C := RJ4) (n := 4) (y := yJ5_newCapacity_0f7a4) (yI := yJ5_isLatin1_aae02) (args := args) (s := s) (by decide) (by decide) rfl (hts _ (z_t1 (List.mem_of_getElem? (i := 170) (by decide +kernel)))) (hts _ (z_t5 (List.mem_of_getElem? (i := 42) (by decide +kernel)))) (hts _ (z_t5 (List.mem_of_getElem? (i := 43) (by decide +kernel)))) (hts _ (z_t5 (List.mem_of_getElem? (i := 69) (by decide +kernel)))) (hts _ (z_t5 (List.mem_of_getElem? (i := 67) (by decide +kernel)))))
  · exact va_Nw.of rfl (z_selP (C := RJ4) (n := 4) (y := yJ5_inflateIfNeededFor_a7421) (yI := yJ5_isLatin1_aae02) (args := args) (s := s) (by decide) (by decide) rfl (hts _ (z_t1 (List.mem_of_getElem? (i := 170) (by decide +kernel)))) (hts _ (z_t5 (List.mem_of_getElem? (i := 111) (by decide +kernel)))) (hts _ (z_t5 (List.mem_of_getElem? (i := 112) (by decide +kernel)))) (hts _ (z_t5 (List.mem_of_getElem? (i := 69) (by decide +kernel)))) (hts _ (z_t5 (List.mem_of_getElem? (i := 67) (by decide +kernel)))))
  · exact va_Nw.of rfl (z_selP (C := RJ4) (n := 4) (y := yJ5_putStringAt_47b60) (yI := yJ5_isLatin1_aae02) (args := args) (s := s) (by decide) (by decide) rfl (hts _ (z_t1 (List.mem_of_getElem? (i := 170) (by decide +kernel)))) (hts _ (z_t5 (List.mem_of_getElem? (i := 107) (by decide +kernel)))) (hts _ (z_t5 (List.mem_of_getElem? (i := 108) (by decide +kernel)))) (hts _ (z_t5 (List.mem_of_getElem? (i := 69) (by decide +kernel)))) (hts _ (z_t5 (List.mem_of_getElem? (i := 67) (by decide +kernel)))))
set_option maxRecDepth 100000 in
set_option maxHeartbeats 8000000 in
theorem zs_En (hts : ∀ w ∈ lw_tbl, w.before args s = true) (hgv : (Jvm.Cond.and given_1 narrow_1).before args s = true) (hA : ∀ a : Nat, a < s.heap.size → ¬ A a) : zEn A s s.heap :=
  ⟨va_Zof (C := "java/lang/String") (n := "COMPACT_STRINGS") (d := "Z") (hts _ (z_t1 (List.mem_of_getElem? (i := 179) (by decide +kernel)))) (hts _ (z_t1 (List.mem_of_getElem? (i := 10) (by decide +kernel)))) (va_eqt (zNr hgv 13 (by decide +kernel))) hA, zs_ones hts hgv hA, zs_tens hts hgv hA, va_Zqof (hts _ (z_t5 (List.mem_of_getElem? (i := 84) (by decide +kernel)))) (hts _ (z_t1 (List.mem_of_getElem? (i := 29) (by decide +kernel)))) (zNr hgv 34 (by decide +kernel)) hA, zs_sel hts hgv⟩
set_option maxRecDepth 100000 in
set_option maxHeartbeats 8000000 in
theorem zs_strs (hts : ∀ w ∈ lw_tbl, w.before args s = true) (hgv : (Jvm.Cond.and given_1 narrow_1).before args s = true) : ∀ q ∈ zStrs, ∃ sa, vk_R RX5 q.1 q.2 sa s := (List.forall_mem_cons.mpr ⟨zRof (hts _ (z_t2 (List.mem_of_getElem? (i := 76) (by decide +kernel)))) (zNr hgv 346 (by decide +kernel)), (List.forall_mem_cons.mpr ⟨zRof (hts _ (z_t2 (List.mem_of_getElem? (i := 111) (by decide +kernel)))) (zNr hgv 377 (by decide +kernel)), (List.forall_mem_cons.mpr ⟨zRof (hts _ (z_t2 (List.mem_of_getElem? (i := 153) (by decide +kernel)))) (zNr hgv 398 (by decide +kernel)), (List.forall_mem_cons.mpr ⟨zRof (hts _ (z_t2 (List.mem_of_getElem? (i := 198) (by decide +kernel)))) (zNr hgv 419 (by decide +kernel)), (List.forall_mem_cons.mpr ⟨zRof (hts _ (z_t2 (List.mem_of_getElem? (i := 202) (by decide +kernel)))) (zNr hgv 444 (by decide +kernel)), (List.forall_mem_cons.mpr ⟨zRof (hts _ (z_t2 (List.mem_of_getElem? (i := 214) (by decide +kernel)))) (zNr hgv 472 (by decide +kernel)), (List.forall_mem_cons.mpr ⟨zRof (hts _ (z_t2 (List.mem_of_getElem? (i := 226) (by decide +kernel)))) (zNr hgv 497 (by decide +kernel)), (List.forall_mem_cons.mpr ⟨zRof (hts _ (z_t2 (List.mem_of_getElem? (i := 227) (by decide +kernel)))) (zNr hgv 525 (by decide +kernel)), (List.forall_mem_cons.mpr ⟨zRof (hts _ (z_t3 (List.mem_of_getElem? (i := 0) (by decide +kernel)))) (zNr hgv 554 (by decide +kernel)), (List.forall_mem_cons.mpr ⟨zRof (hts _ (z_t3 (List.mem_of_getElem? (i := 1) (by decide +kernel)))) (zNr hgv 579 (by decide +kernel)), (List.forall_mem_cons.mpr ⟨zRof (hts _ (z_t3 (List.mem_of_getElem? (i := 9) (by decide +kernel)))) (zNr hgv 609 (by decide +kernel)), (List.forall_mem_cons.mpr ⟨zRof (hts _ (z_t3 (List.mem_of_getElem? (i := 21) (by decide +kernel)))) (zNr hgv 636 (by decide +kernel)), (List.forall_mem_cons.mpr ⟨zRof (hts _ (z_t3 (List.mem_of_getElem? (i := 22) (by decide +kernel)))) (zNr hgv 661 (by decide +kernel)), (List.forall_mem_cons.mpr ⟨zRof (hts _ (z_t3 (List.mem_of_getElem? (i := 64) (by decide +kernel)))) (zNr hgv 688 (by decide +kernel)), (List.forall_mem_cons.mpr ⟨zRof (hts _ (z_t3 (List.mem_of_getElem? (i := 73) (by decide +kernel)))) (zNr hgv 716 (by decide +kernel)), (List.forall_mem_cons.mpr ⟨zRof (hts _ (z_t3 (List.mem_of_getElem? (i := 83) (by decide +kernel)))) (zNr hgv 740 (by decide +kernel)), (List.forall_mem_cons.mpr ⟨zRof (hts _ (z_t3 (List.mem_of_getElem? (i := 98) (by decide +kernel)))) (zNr hgv 777 (by decide +kernel)), (List.forall_mem_cons.mpr ⟨zRof (hts _ (z_t3 (List.mem_of_getElem? (i := 99) (by decide +kernel)))) (zNr hgv 805 (by decide +kernel)), (List.forall_mem_cons.mpr ⟨zRof (hts _ (z_t3 (List.mem_of_getElem? (i := 107) (by decide +kernel)))) (zNr hgv 832 (by decide +kernel)), (List.forall_mem_cons.mpr ⟨zRof (hts _ (z_t3 (List.mem_of_getElem? (i := 210) (by decide +kernel)))) (zNr hgv 868 (by decide +kernel)), (List.forall_mem_cons.mpr ⟨zRof (hts _ (z_t3 (List.mem_of_getElem? (i := 211) (by decide +kernel)))) (zNr hgv 901 (by decide +kernel)), (List.forall_mem_cons.mpr ⟨zRof (hts _ (z_t3 (List.mem_of_getElem? (i := 221) (by decide +kernel)))) (zNr hgv 935 (by decide +kernel)), (List.forall_mem_cons.mpr ⟨zRof (hts _ (z_t4 (List.mem_of_getElem? (i := 0) (by decide +kernel)))) (zNr hgv 958 (by decide +kernel)), (List.forall_mem_cons.mpr ⟨zRof (hts _ (z_t4 (List.mem_of_getElem? (i := 1) (by decide +kernel)))) (zNr hgv 991 (by decide +kernel)), (List.forall_mem_cons.mpr ⟨zRof (hts _ (z_t4 (List.mem_of_getElem? (i := 10) (by decide +kernel)))) (zNr hgv 1018 (by decide +kernel)), (List.forall_mem_cons.mpr ⟨zRof (hts _ (z_t4 (List.mem_of_getElem? (i := 16) (by decide +kernel)))) (zNr hgv 1051 (by decide +kernel)), (List.forall_mem_cons.mpr ⟨zRof (hts _ (z_t4 (List.mem_of_getElem? (i := 33) (by decide +kernel)))) (zNr hgv 1074 (by decide +kernel)), (List.forall_mem_cons.mpr ⟨zRof (hts _ (z_t4 (List.mem_of_getElem? (i := 50) (by decide +kernel)))) (zNr hgv 1099 (by decide +kernel)), (List.forall_mem_cons.mpr ⟨zRof (hts _ (z_t4 (List.mem_of_getElem? (i := 51) (by decide +kernel)))) (zNr hgv 1126 (by decide +kernel)), (List.forall_mem_cons.mpr ⟨zRof (hts _ (z_t4 (List.mem_of_getElem? (i := 80) (by decide +kernel)))) (zNr hgv 1150 (by decide +kernel)), (List.forall_mem_cons.mpr ⟨zRof (hts _ (z_t4 (List.mem_of_getElem? (i := 92) (by decide +kernel)))) (zNr hgv 1176 (by decide +kernel)), (List.forall_mem_cons.mpr ⟨zRof (hts _ (z_t4 (List.mem_of_getElem? (i := 93) (by decide +kernel)))) (zNr hgv 1223 (by decide +kernel)), (List.forall_mem_cons.mpr ⟨zRof (hts _ (z_t4 (List.mem_of_getElem? (i := 126) (by decide +kernel)))) (zNr hgv 1253 (by decide +kernel)), (List.forall_mem_cons.mpr ⟨zRof (hts _ (z_t4 (List.mem_of_getElem? (i := 134) (by decide +kernel)))) (zNr hgv 1279 (by decide +kernel)), (List.forall_mem_cons.mpr ⟨zRof (hts _ (z_t4 (List.mem_of_getElem? (i := 135) (by decide +kernel)))) (zNr hgv 1304 (by decide +kernel)), (List.forall_mem_cons.mpr ⟨zRof (hts _ (z_t4 (List.mem_of_getElem? (i := 143) (by decide +kernel)))) (zNr hgv 1331 (by decide +kernel)), (List.forall_mem_cons.mpr ⟨zRof (hts _ (z_t4 (List.mem_of_getElem? (i := 192) (by decide +kernel)))) (zNr hgv 1383 (by decide +kernel)), (List.forall_mem_cons.mpr ⟨zRof (hts _ (z_t4 (List.mem_of_getElem? (i := 204) (by decide +kernel)))) (zNr hgv 1406 (by decide +kernel)), (List.forall_mem_cons.mpr ⟨zRof (hts _ (z_t4 (List.mem_of_getElem? (i := 219) (by decide +kernel)))) (zNr hgv 1465 (by decide +kernel)), (List.forall_mem_cons.mpr ⟨zRof (hts _ (z_t5 (List.mem_of_getElem? (i := 2) (by decide +kernel)))) (zNr hgv 1487 (by decide +kernel)), (List.forall_mem_cons.mpr ⟨zRof (hts _ (z_t6 (List.mem_of_getElem? (i := 23) (by decide +kernel)))) (zNr hgv 1635 (by decide +kernel)), (List.forall_mem_cons.mpr ⟨zRof (hts _ (z_t6 (List.mem_of_getElem? (i := 25) (by decide +kernel)))) (zNr hgv 1647 (by decide +kernel)), (List.forall_mem_cons.mpr ⟨zRof (hts _ (z_t6 (List.mem_of_getElem? (i := 26) (by decide +kernel)))) (zNr hgv 1655 (by decide +kernel)), (List.forall_mem_cons.mpr ⟨zRof (hts _ (z_t6 (List.mem_of_getElem? (i := 54) (by decide +kernel)))) (zNr hgv 1661 (by decide +kernel)), (List.forall_mem_cons.mpr ⟨zRof (hts _ (z_t6 (List.mem_of_getElem? (i := 63) (by decide +kernel)))) (zNr hgv 1667 (by decide +kernel)), (List.forall_mem_cons.mpr ⟨zRof (hts _ (z_t6 (List.mem_of_getElem? (i := 81) (by decide +kernel)))) (zNr hgv 1693 (by decide +kernel)), (List.forall_mem_cons.mpr ⟨zRof (hts _ (z_t6 (List.mem_of_getElem? (i := 82) (by decide +kernel)))) (zNr hgv 1721 (by decide +kernel)), (List.forall_mem_cons.mpr ⟨zRof (hts _ (z_t6 (List.mem_of_getElem? (i := 145) (by decide +kernel)))) (zNr hgv 1778 (by decide +kernel)), (List.forall_mem_cons.mpr ⟨zRof (hts _ (z_t6 (List.mem_of_getElem? (i := 155) (by decide +kernel)))) (zNr hgv 1817 (by decide +kernel)), (List.forall_mem_cons.mpr ⟨zRof (hts _ (z_t6 (List.mem_of_getElem? (i := 164) (by decide +kernel)))) (zNr hgv 1852 (by decide +kernel)), (List.forall_mem_cons.mpr ⟨zRof (hts _ (z_t6 (List.mem_of_getElem? (i := 172) (by decide +kernel)))) (zNr hgv 1882 (by decide +kernel)), (List.forall_mem_cons.mpr ⟨zRof (hts _ (z_t6 (List.mem_of_getElem? (i := 185) (by decide +kernel)))) (zNr hgv 1912 (by decide +kernel)), (fun _ h => nomatch h)⟩)⟩)⟩)⟩)⟩)⟩)⟩)⟩)⟩)⟩)⟩)⟩)⟩)⟩)⟩)⟩)⟩)⟩)⟩)⟩)⟩)⟩)⟩)⟩)⟩)⟩)⟩)⟩)⟩)⟩)⟩)⟩)⟩)⟩)⟩)⟩)⟩)⟩)⟩)⟩)⟩)⟩)⟩)⟩)⟩)⟩)⟩)⟩)⟩)⟩)⟩)⟩)
set_option maxRecDepth 100000 in
set_option maxHeartbeats 8000000 in
theorem zs_str5 (hts : ∀ w ∈ lw_tbl, w.before args s = true) (hgv : (Jvm.Cond.and given_1 narrow_1).before args s = true) : ∀ q ∈ zStr5, ∃ sa, vk_R RX5 q.1 q.2 sa s := (List.forall_mem_cons.mpr ⟨zRof (hts _ (z_t5 (List.mem_of_getElem? (i := 2) (by decide +kernel)))) (zNr hgv 1487 (by decide +kernel)), (List.forall_mem_cons.mpr ⟨zRof (hts _ (z_t6 (List.mem_of_getElem? (i := 63) (by decide +kernel)))) (zNr hgv 1667 (by decide +kernel)), (List.forall_mem_cons.mpr ⟨zRof (hts _ (z_t6 (List.mem_of_getElem? (i := 81) (by decide +kernel)))) (zNr hgv 1693 (by decide +kernel)), (List.forall_mem_cons.mpr ⟨zRof (hts _ (z_t6 (List.mem_of_getElem? (i := 82) (by decide +kernel)))) (zNr hgv 1721 (by decide +kernel)), (List.forall_mem_cons.mpr ⟨zRof (hts _ (z_t6 (List.mem_of_getElem? (i := 145) (by decide +kernel)))) (zNr hgv 1778 (by decide +kernel)), (List.forall_mem_cons.mpr ⟨zRof (hts _ (z_t6 (List.mem_of_getElem? (i := 155) (by decide +kernel)))) (zNr hgv 1817 (by decide +kernel)), (fun _ h => nomatch h)⟩)⟩)⟩)⟩)⟩)⟩)
set_option maxRecDepth 100000 in
set_option maxHeartbeats 8000000 in
theorem zs_bad (hts : ∀ w ∈ lw_tbl, w.before args s = true) (hgv : (Jvm.Cond.and given_1 narrow_1).before args s = true) : ∀ w ∈ zBad, w.before #[] s = true := (List.forall_mem_cons.mpr ⟨va_Nw.of rfl (hts _ (z_t2 (List.mem_of_getElem? (i := 32) (by decide +kernel)))), (List.forall_mem_cons.mpr ⟨va_Nw.of rfl (hts _ (z_t2 (List.mem_of_getElem? (i := 104) (by decide +kernel)))), (List.forall_mem_cons.mpr ⟨va_Nw.of rfl (hts _ (z_t2 (List.mem_of_getElem? (i := 191) (by decide +kernel)))), (List.forall_mem_cons.mpr ⟨va_Nw.of rfl (hts _ (z_t4 (List.mem_of_getElem? (i := 235) (by decide +kernel)))), (List.forall_mem_cons.mpr ⟨va_Nw.of rfl (hts _ (z_t3 (List.mem_of_getElem? (i := 214) (by decide +kernel)))), (List.forall_mem_cons.mpr ⟨va_Nw.of rfl (hts _ (z_t3 (List.mem_of_getElem? (i := 76) (by decide +kernel)))), (List.forall_mem_cons.mpr ⟨va_Nw.of rfl (hts _ (z_t2 (List.mem_of_getElem? (i := 34) (by decide +kernel)))), (List.forall_mem_cons.mpr ⟨va_Nw.of rfl (hts _ (z_t2 (List.mem_of_getElem? (i := 36) (by decide +kernel)))), (List.forall_mem_cons.mpr ⟨va_Nw.of rfl (hts _ (z_t2 (List.mem_of_getElem? (i := 38) (by decide +kernel)))), (fun _ h => nomatch h)⟩)⟩)⟩)⟩)⟩)⟩)⟩)⟩)⟩)
set_option maxRecDepth 100000 in
set_option maxHeartbeats 8000000 in
theorem zs_Th (hts : ∀ w ∈ lw_tbl, w.before args s = true) (hgv : (Jvm.Cond.and given_1 narrow_1).before args s = true) (hA : ∀ a : Nat, a < s.heap.size → ¬ A a) : zTh A s s.heap := ⟨zs_strs hts hgv, zs_bad hts hgv, vx_Zqof (hts _ (z_t2 (List.mem_of_getElem? (i := 57) (by decide +kernel)))) (hts _ (z_t1 (List.mem_of_getElem? (i := 13) (by decide +kernel)))) (zNr hgv 14 (by decide +kernel)) hA, vx_Zqof (hts _ (z_t2 (List.mem_of_getElem? (i := 59) (by decide +kernel)))) (hts _ (z_t1 (List.mem_of_getElem? (i := 13) (by decide +kernel)))) (zNr hgv 15 (by decide +kernel)) hA⟩
set_option maxRecDepth 100000 in
set_option maxHeartbeats 8000000 in
theorem zs_nc (hts : ∀ w ∈ lw_tbl, w.before args s = true) (hgv : (Jvm.Cond.and given_1 narrow_1).before args s = true) : zNcE A s s.heap := show ∀ q ∈ zNcs, va_Nc q.1 q.2 s from (List.forall_mem_cons.mpr ⟨va_Nc.of (zNr hgv 292 (by decide +kernel)), (List.forall_mem_cons.mpr ⟨va_Nc.of (zNr hgv 260 (by decide +kernel)), (List.forall_mem_cons.mpr ⟨va_Nc.of (zNr hgv 293 (by decide +kernel)), (List.forall_mem_cons.mpr ⟨va_Nc.of (zNr hgv 264 (by decide +kernel)), (List.forall_mem_cons.mpr ⟨va_Nc.of (zNr hgv 280 (by decide +kernel)), (List.forall_mem_cons.mpr ⟨va_Nc.of (zNr hgv 295 (by decide +kernel)), (List.forall_mem_cons.mpr ⟨va_Nc.of (zNr hgv 263 (by decide +kernel)), (List.forall_mem_cons.mpr ⟨va_Nc.of (zNr hgv 294 (by decide +kernel)), (List.forall_mem_cons.mpr ⟨va_Nc.of (zNr hgv 306 (by decide +kernel)), (fun _ h => nomatch h)⟩)⟩)⟩)⟩)⟩)⟩)⟩)⟩)⟩)
theorem zs_Er (hts : ∀ w ∈ lw_tbl, w.before args s = true) (hgv : (Jvm.Cond.and given_1 narrow_1).before args s = true) (hA : ∀ a : Nat, a < s.heap.size → ¬ A a) : zEr A s s.heap := ⟨zs_En hts hgv hA, zk1_80 hts hgv hA, zs_NUMBERS hts hgv hA⟩
theorem zs_E5 (hts : ∀ w ∈ lw_tbl, w.before args s = true) (hgv : (Jvm.Cond.and given_1 narrow_1).before args s = true) (hA : ∀ a : Nat, a < s.heap.size → ¬ A a) : zE5 A s s.heap := ⟨zs_Er hts hgv hA, zs_Th hts hgv hA, zs_str5 hts hgv, ⟨zk5_351 hts hgv hA, zk5_357 hts hgv hA, zk5_359 hts hgv hA, zk5_449 hts hgv hA⟩, zs_LOWEST_SETTINGS hts hgv hA, zs_HIGHEST_SETTINGS hts hgv hA⟩
theorem zs_Em (hts : ∀ w ∈ lw_tbl, w.before args s = true) (hgv : (Jvm.Cond.and given_1 narrow_1).before args s = true) (hA : ∀ a : Nat, a < s.heap.size → ¬ A a) : zEm A s s.heap := ⟨zs_En hts hgv hA, ⟨zk6_255 hts hgv hA, zk6_264 hts hgv hA, zk6_270 hts hgv hA, zk6_272 hts hgv hA⟩, zk6_280 hts hgv hA, zk6_282 hts hgv hA, zk6_284 hts hgv hA, zk6_286 hts hgv hA, zk6_288 hts hgv hA⟩
theorem zs_El (hts : ∀ w ∈ lw_tbl, w.before args s = true) (hgv : (Jvm.Cond.and given_1 narrow_1).before args s = true) (hA : ∀ a : Nat, a < s.heap.size → ¬ A a) : zEl A s s.heap := ⟨⟨zs_E5 hts hgv hA, zs_nc hts hgv⟩, zs_Em hts hgv hA⟩
set_option maxRecDepth 100000 in
set_option maxHeartbeats 8000000 in
theorem zs_Ei (hts : ∀ w ∈ lw_tbl, w.before args s = true) (hgv : (Jvm.Cond.and given_1 narrow_1).before args s = true) (hA : ∀ a : Nat, a < s.heap.size → ¬ A a) : zEi A s s.heap := ⟨zs_E5 hts hgv hA, zs_FIRST_SETTINGS hts hgv hA, va_Nw.of rfl (hts _ (z_t1 (List.mem_of_getElem? (i := 68) (by decide +kernel)))), va_Nw.of rfl (hts _ (z_t1 (List.mem_of_getElem? (i := 132) (by decide +kernel)))), va_Nw.of rfl (hts _ (z_t1 (List.mem_of_getElem? (i := 154) (by decide +kernel)))), va_AO.of (hts _ (z_t1 (List.mem_of_getElem? (i := 117) (by decide +kernel))))⟩
theorem zs_arr {ty : FieldType} (hq : ∀ C, ty ≠ .object C) (h : (Cond.arrayClass ty).before args s = true) : ∃ cA : ClassId, ArrOfT s cA ty ∧ va_RA s cA ty := by
  obtain ⟨cA, k, comp, h1, h2, h3⟩ := Cond.arrayClass_spec (args := args) (first := s) (o := none) (s := s) (idx := []) h
  refine ⟨cA, fun n z => ⟨(fun k h => by cases h), k, h2, comp, h3⟩, ?_⟩
  cases ty with
  | object C => exact absurd rfl (hq C)
  | _ => exact h1
theorem zs_arq {C : String} (h : (Cond.arrayOver (.object C)).before args s = true) : ∃ cA : ClassId, ArrOfT s cA (.object C) ∧ va_RA s cA (.object C) := by
  obtain ⟨comp, cA, k, h1, h2, h3, h4, h5⟩ := Cond.arrayOver_spec h
  exact ⟨cA, fun n z => ⟨(fun k h => by cases h), k, h3, comp, h4⟩, k, comp, h3, h4, h1, h5⟩
set_option maxRecDepth 100000 in
set_option maxHeartbeats 8000000 in
theorem zin2_RJ0 : ∀ w ∈ u_ws RJ0 TJ0 4, w ∈ lw_tbl := by
  show ∀ w ∈ [u_lay RJ0 TJ0 0, u_lay RJ0 TJ0 1, u_lay RJ0 TJ0 2, u_lay RJ0 TJ0 3], w ∈ lw_tbl
  intro w hw
  simp only [List.mem_cons, List.not_mem_nil, or_false] at hw
  rcases hw with rfl | rfl | rfl | rfl
  · exact z_t2 (List.mem_of_getElem? (i := 177) (by decide +kernel))
  · exact z_t2 (List.mem_of_getElem? (i := 179) (by decide +kernel))
  · exact z_t5 (List.mem_of_getElem? (i := 223) (by decide +kernel))
  · exact z_t5 (List.mem_of_getElem? (i := 225) (by decide +kernel))
set_option maxRecDepth 100000 in
set_option maxHeartbeats 8000000 in
theorem zin2_RJ4 : ∀ w ∈ u_ws RJ4 TJ4 4, w ∈ lw_tbl := by
  show ∀ w ∈ [u_lay RJ4 TJ4 0, u_lay RJ4 TJ4 1, u_lay RJ4 TJ4 2, u_lay RJ4 TJ4 3], w ∈ lw_tbl
  intro w hw
  simp only [List.mem_cons, List.not_mem_nil, or_false] at hw
  rcases hw with rfl | rfl | rfl | rfl
  · exact z_t1 (List.mem_of_getElem? (i := 192) (by decide +kernel))
  · exact z_t1 (List.mem_of_getElem? (i := 194) (by decide +kernel))
  · exact z_t1 (List.mem_of_getElem? (i := 196) (by decide +kernel))
  · exact z_t1 (List.mem_of_getElem? (i := 198) (by decide +kernel))
set_option maxRecDepth 100000 in
set_option maxHeartbeats 8000000 in
theorem zin2_RJx00060 : ∀ w ∈ u_ws RJx00060 TJx00060 6, w ∈ lw_tbl := by
  show ∀ w ∈ [u_lay RJx00060 TJx00060 0, u_lay RJx00060 TJx00060 1, u_lay RJx00060 TJx00060 2, u_lay RJx00060 TJx00060 3, u_lay RJx00060 TJx00060 4, u_lay RJx00060 TJx00060 5], w ∈ lw_tbl
  intro w hw
  simp only [List.mem_cons, List.not_mem_nil, or_false] at hw
  rcases hw with rfl | rfl | rfl | rfl | rfl | rfl
  · exact z_t2 (List.mem_of_getElem? (i := 165) (by decide +kernel))
  · exact z_t2 (List.mem_of_getElem? (i := 166) (by decide +kernel))
  · exact z_t2 (List.mem_of_getElem? (i := 167) (by decide +kernel))
  · exact z_t2 (List.mem_of_getElem? (i := 168) (by decide +kernel))
  · exact z_t2 (List.mem_of_getElem? (i := 169) (by decide +kernel))
  · exact z_t2 (List.mem_of_getElem? (i := 170) (by decide +kernel))
set_option maxRecDepth 100000 in
set_option maxHeartbeats 8000000 in
theorem zin2_RJx7c733 : ∀ w ∈ u_ws RJx7c733 TJx7c733 6, w ∈ lw_tbl := by
  show ∀ w ∈ [u_lay RJx7c733 TJx7c733 0, u_lay RJx7c733 TJx7c733 1, u_lay RJx7c733 TJx7c733 2, u_lay RJx7c733 TJx7c733 3, u_lay RJx7c733 TJx7c733 4, u_lay RJx7c733 TJx7c733 5], w ∈ lw_tbl
  intro w hw
  simp only [List.mem_cons, List.not_mem_nil, or_false] at hw
  rcases hw with rfl | rfl | rfl | rfl | rfl | rfl
  · exact z_t5 (List.mem_of_getElem? (i := 229) (by decide +kernel))
  · exact z_t5 (List.mem_of_getElem? (i := 230) (by decide +kernel))
  · exact z_t5 (List.mem_of_getElem? (i := 231) (by decide +kernel))
  · exact z_t5 (List.mem_of_getElem? (i := 232) (by decide +kernel))
  · exact z_t5 (List.mem_of_getElem? (i := 233) (by decide +kernel))
  · exact z_t5 (List.mem_of_getElem? (i := 234) (by decide +kernel))
set_option maxRecDepth 100000 in
set_option maxHeartbeats 8000000 in
theorem zin2_RX0 : ∀ w ∈ u_ws RX0 TX0 3, w ∈ lw_tbl := by
  show ∀ w ∈ [u_lay RX0 TX0 0, u_lay RX0 TX0 1, u_lay RX0 TX0 2], w ∈ lw_tbl
  intro w hw
  simp only [List.mem_cons, List.not_mem_nil, or_false] at hw
  rcases hw with rfl | rfl | rfl
  · exact z_t1 (List.mem_of_getElem? (i := 123) (by decide +kernel))
  · exact z_t1 (List.mem_of_getElem? (i := 125) (by decide +kernel))
  · exact z_t1 (List.mem_of_getElem? (i := 127) (by decide +kernel))
set_option maxRecDepth 100000 in
set_option maxHeartbeats 8000000 in
theorem zin2_RX1 : ∀ w ∈ u_ws RX1 TX1 2, w ∈ lw_tbl := by
  show ∀ w ∈ [u_lay RX1 TX1 0, u_lay RX1 TX1 1], w ∈ lw_tbl
  intro w hw
  simp only [List.mem_cons, List.not_mem_nil, or_false] at hw
  rcases hw with rfl | rfl
  · exact z_t1 (List.mem_of_getElem? (i := 164) (by decide +kernel))
  · exact z_t1 (List.mem_of_getElem? (i := 166) (by decide +kernel))
set_option maxRecDepth 100000 in
set_option maxHeartbeats 8000000 in
theorem zin2_RX2 : ∀ w ∈ u_ws RX2 TX2 4, w ∈ lw_tbl := by
  show ∀ w ∈ [u_lay RX2 TX2 0, u_lay RX2 TX2 1, u_lay RX2 TX2 2, u_lay RX2 TX2 3], w ∈ lw_tbl
  intro w hw
  simp only [List.mem_cons, List.not_mem_nil, or_false] at hw
  rcases hw with rfl | rfl | rfl | rfl
  · exact z_t1 (List.mem_of_getElem? (i := 143) (by decide +kernel))
  · exact z_t1 (List.mem_of_getElem? (i := 145) (by decide +kernel))
  · exact z_t1 (List.mem_of_getElem? (i := 147) (by decide +kernel))
  · exact z_t1 (List.mem_of_getElem? (i := 149) (by decide +kernel))
set_option maxRecDepth 100000 in
set_option maxHeartbeats 8000000 in
theorem zin2_RX3 : ∀ w ∈ u_ws RX3 TX3 8, w ∈ lw_tbl := by
  show ∀ w ∈ [u_lay RX3 TX3 0, u_lay RX3 TX3 1, u_lay RX3 TX3 2, u_lay RX3 TX3 3, u_lay RX3 TX3 4, u_lay RX3 TX3 5, u_lay RX3 TX3 6, u_lay RX3 TX3 7], w ∈ lw_tbl
  intro w hw
  simp only [List.mem_cons, List.not_mem_nil, or_false] at hw
  rcases hw with rfl | rfl | rfl | rfl | rfl | rfl | rfl | rfl
  · exact z_t1 (List.mem_of_getElem? (i := 93) (by decide +kernel))
  · exact z_t1 (List.mem_of_getElem? (i := 95) (by decide +kernel))
  · exact z_t1 (List.mem_of_getElem? (i := 97) (by decide +kernel))
  · exact z_t1 (List.mem_of_getElem? (i := 99) (by decide +kernel))
  · exact z_t1 (List.mem_of_getElem? (i := 101) (by decide +kernel))
  · exact z_t1 (List.mem_of_getElem? (i := 103) (by decide +kernel))
  · exact z_t1 (List.mem_of_getElem? (i := 105) (by decide +kernel))
  · exact z_t1 (List.mem_of_getElem? (i := 107) (by decide +kernel))
set_option maxRecDepth 100000 in
set_option maxHeartbeats 8000000 in
theorem zin2_RX4 : ∀ w ∈ u_ws RX4 TX4 4, w ∈ lw_tbl := by
  show ∀ w ∈ [u_lay RX4 TX4 0, u_lay RX4 TX4 1, u_lay RX4 TX4 2, u_lay RX4 TX4 3], w ∈ lw_tbl
  intro w hw
  simp only [List.mem_cons, List.not_mem_nil, or_false] at hw
  rcases hw with rfl | rfl | rfl | rfl
  · exact z_t1 (List.mem_of_getElem? (i := 58) (by decide +kernel))
  · exact z_t1 (List.mem_of_getElem? (i := 60) (by decide +kernel))
  · exact z_t1 (List.mem_of_getElem? (i := 62) (by decide +kernel))
  · exact z_t1 (List.mem_of_getElem? (i := 64) (by decide +kernel))
set_option maxRecDepth 100000 in
set_option maxHeartbeats 8000000 in
theorem zin2_RX5 : ∀ w ∈ u_ws RX5 TX5 11, w ∈ lw_tbl := by
  show ∀ w ∈ [u_lay RX5 TX5 0, u_lay RX5 TX5 1, u_lay RX5 TX5 2, u_lay RX5 TX5 3, u_lay RX5 TX5 4, u_lay RX5 TX5 5, u_lay RX5 TX5 6, u_lay RX5 TX5 7, u_lay RX5 TX5 8, u_lay RX5 TX5 9, u_lay RX5 TX5 10], w ∈ lw_tbl
  intro w hw
  simp only [List.mem_cons, List.not_mem_nil, or_false] at hw
  rcases hw with rfl | rfl | rfl | rfl | rfl | rfl | rfl | rfl | rfl | rfl | rfl
  · exact z_t1 (List.mem_of_getElem? (i := 213) (by decide +kernel))
  · exact z_t1 (List.mem_of_getElem? (i := 215) (by decide +kernel))
  · exact z_t1 (List.mem_of_getElem? (i := 217) (by decide +kernel))
  · exact z_t1 (List.mem_of_getElem? (i := 219) (by decide +kernel))
  · exact z_t1 (List.mem_of_getElem? (i := 221) (by decide +kernel))
  · exact z_t1 (List.mem_of_getElem? (i := 223) (by decide +kernel))
  · exact z_t1 (List.mem_of_getElem? (i := 225) (by decide +kernel))
  · exact z_t1 (List.mem_of_getElem? (i := 227) (by decide +kernel))
  · exact z_t1 (List.mem_of_getElem? (i := 229) (by decide +kernel))
  · exact z_t1 (List.mem_of_getElem? (i := 231) (by decide +kernel))
  · exact z_t1 (List.mem_of_getElem? (i := 233) (by decide +kernel))
set_option maxRecDepth 100000 in
set_option maxHeartbeats 8000000 in
theorem zin2_RX6 : ∀ w ∈ u_ws RX6 TX6 27, w ∈ lw_tbl := by
  show ∀ w ∈ [u_lay RX6 TX6 0, u_lay RX6 TX6 1, u_lay RX6 TX6 2, u_lay RX6 TX6 3, u_lay RX6 TX6 4, u_lay RX6 TX6 5, u_lay RX6 TX6 6, u_lay RX6 TX6 7, u_lay RX6 TX6 8, u_lay RX6 TX6 9, u_lay RX6 TX6 10, u_lay RX6 TX6 11, u_lay RX6 TX6 12, u_lay RX6 TX6 13, u_lay RX6 TX6 14, u_lay RX6 TX6 15, u_lay RX6 TX6 16, u_lay RX6 TX6 17, u_lay RX6 TX6 18, u_lay RX6 TX6 19, u_lay RX6 TX6 20, u_lay RX6 TX6 21, u_lay RX6 TX6 22, u_lay RX6 TX6 23, u_lay RX6 TX6 24, u_lay RX6 TX6 25, u_lay RX6 TX6 26], w ∈ lw_tbl
  intro w hw
  simp only [List.mem_cons, List.not_mem_nil, or_false] at hw
  rcases hw with rfl | rfl | rfl | rfl | rfl | rfl | rfl | rfl | rfl | rfl | rfl | rfl | rfl | rfl | rfl | rfl | rfl | rfl | rfl | rfl | rfl | rfl | rfl | rfl | rfl | rfl | rfl
  · exact z_t6 (List.mem_of_getElem? (i := 223) (by decide +kernel))
  · exact z_t6 (List.mem_of_getElem? (i := 225) (by decide +kernel))
  · exact z_t6 (List.mem_of_getElem? (i := 227) (by decide +kernel))
  · exact z_t6 (List.mem_of_getElem? (i := 229) (by decide +kernel))
  · exact z_t6 (List.mem_of_getElem? (i := 231) (by decide +kernel))
  · exact z_t6 (List.mem_of_getElem? (i := 233) (by decide +kernel))
  · exact z_t6 (List.mem_of_getElem? (i := 235) (by decide +kernel))
  · exact z_t6 (List.mem_of_getElem? (i := 237) (by decide +kernel))
  · exact z_t6 (List.mem_of_getElem? (i := 239) (by decide +kernel))
  · exact z_t7 (List.mem_of_getElem? (i := 1) (by decide +kernel))
  · exact z_t7 (List.mem_of_getElem? (i := 3) (by decide +kernel))
  · exact z_t7 (List.mem_of_getElem? (i := 5) (by decide +kernel))
  · exact z_t7 (List.mem_of_getElem? (i := 7) (by decide +kernel))
  · exact z_t7 (List.mem_of_getElem? (i := 9) (by decide +kernel))
  · exact z_t7 (List.mem_of_getElem? (i := 11) (by decide +kernel))
  · exact z_t7 (List.mem_of_getElem? (i := 13) (by decide +kernel))
  · exact z_t7 (List.mem_of_getElem? (i := 15) (by decide +kernel))
  · exact z_t7 (List.mem_of_getElem? (i := 17) (by decide +kernel))
  · exact z_t7 (List.mem_of_getElem? (i := 19) (by decide +kernel))
  · exact z_t7 (List.mem_of_getElem? (i := 21) (by decide +kernel))
  · exact z_t7 (List.mem_of_getElem? (i := 23) (by decide +kernel))
  · exact z_t7 (List.mem_of_getElem? (i := 25) (by decide +kernel))
  · exact z_t7 (List.mem_of_getElem? (i := 27) (by decide +kernel))
  · exact z_t7 (List.mem_of_getElem? (i := 29) (by decide +kernel))
  · exact z_t7 (List.mem_of_getElem? (i := 31) (by decide +kernel))
  · exact z_t7 (List.mem_of_getElem? (i := 33) (by decide +kernel))
  · exact z_t7 (List.mem_of_getElem? (i := 35) (by decide +kernel))
set_option maxRecDepth 100000 in
set_option maxHeartbeats 8000000 in
theorem zs_K (hts : ∀ w ∈ lw_tbl, w.before args s = true) : ∃ (D : va_G) (cy : Nat → ClassId), va_K D vwCl (zTy cy) s := by
  obtain ⟨c0, i0, h0⟩ := u_known (C := RJ0) (T := TJ0) (N := 4) (n := 4) hts zin2_RJ0 (hts _ (z_t2 (List.mem_of_getElem? (i := 176) (by decide +kernel))))
  obtain ⟨c1, i1, h1⟩ := u_known (C := RJ4) (T := TJ4) (N := 4) (n := 4) hts zin2_RJ4 (hts _ (z_t1 (List.mem_of_getElem? (i := 170) (by decide +kernel))))
  obtain ⟨c2, i2, h2⟩ := u_known (C := RJx00060) (T := TJx00060) (N := 6) (n := 6) hts zin2_RJx00060 (hts _ (z_t2 (List.mem_of_getElem? (i := 158) (by decide +kernel))))
  obtain ⟨c3, i3, h3⟩ := u_known (C := RJx7c733) (T := TJx7c733) (N := 6) (n := 6) hts zin2_RJx7c733 (hts _ (z_t5 (List.mem_of_getElem? (i := 19) (by decide +kernel))))
  obtain ⟨c4, i4, h4⟩ := u_known (C := RX0) (T := TX0) (N := 3) (n := 3) hts zin2_RX0 (hts _ (z_t1 (List.mem_of_getElem? (i := 111) (by decide +kernel))))
  obtain ⟨c5, i5, h5⟩ := u_known (C := RX1) (T := TX1) (N := 2) (n := 2) hts zin2_RX1 (hts _ (z_t1 (List.mem_of_getElem? (i := 153) (by decide +kernel))))
  obtain ⟨c6, i6, h6⟩ := u_known (C := RX2) (T := TX2) (N := 4) (n := 4) hts zin2_RX2 (hts _ (z_t1 (List.mem_of_getElem? (i := 131) (by decide +kernel))))
  obtain ⟨c7, i7, h7⟩ := u_known (C := RX3) (T := TX3) (N := 8) (n := 8) hts zin2_RX3 (hts _ (z_t1 (List.mem_of_getElem? (i := 40) (by decide +kernel))))
  obtain ⟨c8, i8, h8⟩ := u_known (C := RX4) (T := TX4) (N := 4) (n := 4) hts zin2_RX4 (hts _ (z_t1 (List.mem_of_getElem? (i := 46) (by decide +kernel))))
  obtain ⟨c9, i9, h9⟩ := u_known (C := RX5) (T := TX5) (N := 11) (n := 11) hts zin2_RX5 (hts _ (z_t1 (List.mem_of_getElem? (i := 32) (by decide +kernel))))
  obtain ⟨c10, i10, h10⟩ := u_known (C := RX6) (T := TX6) (N := 27) (n := 27) hts zin2_RX6 (hts _ (z_t6 (List.mem_of_getElem? (i := 191) (by decide +kernel))))
  obtain ⟨y0, ya0⟩ := zs_arr (ty := .int) (fun _ h => nomatch h) (hts _ (z_t1 (List.mem_of_getElem? (i := 67) (by decide +kernel))))
  obtain ⟨y1, ya1⟩ := zs_arr (ty := .char) (fun _ h => nomatch h) (hts _ (z_t7 (List.mem_of_getElem? (i := 38) (by decide +kernel))))
  obtain ⟨y2, ya2⟩ := zs_arr (ty := .byte) (fun _ h => nomatch h) (hts _ (z_t1 (List.mem_of_getElem? (i := 201) (by decide +kernel))))
  obtain ⟨y4, ya4⟩ := zs_arr (ty := .long) (fun _ h => nomatch h) (hts _ (z_t8 (List.mem_of_getElem? (i := 201) (by decide +kernel))))
  obtain ⟨y5, ya5⟩ := zs_arr (ty := .double) (fun _ h => nomatch h) (hts _ (z_t8 (List.mem_of_getElem? (i := 202) (by decide +kernel))))
  obtain ⟨y3, ya3⟩ := zs_arq (C := RX3) (hts _ (z_t1 (List.mem_of_getElem? (i := 117) (by decide +kernel))))
  refine ⟨(fun k => if k = 0 then c0 else if k = 1 then c1 else if k = 2 then c2 else if k = 3 then c3 else if k = 4 then c4 else if k = 5 then c5 else if k = 6 then c6 else if k = 7 then c7 else if k = 8 then c8 else if k = 9 then c9 else c10, fun k => if k = 0 then i0 else if k = 1 then i1 else if k = 2 then i2 else if k = 3 then i3 else if k = 4 then i4 else if k = 5 then i5 else if k = 6 then i6 else if k = 7 then i7 else if k = 8 then i8 else if k = 9 then i9 else i10), fun k => if k = 0 then y0 else if k = 1 then y1 else if k = 2 then y2 else if k = 3 then y3 else if k = 4 then y4 else y5, ?_, ?_⟩
  · intro k q hq
    match k, hq with
    | 0, hq => cases hq; exact h0
    | 1, hq => cases hq; exact h1
    | 2, hq => cases hq; exact h2
    | 3, hq => cases hq; exact h3
    | 4, hq => cases hq; exact h4
    | 5, hq => cases hq; exact h5
    | 6, hq => cases hq; exact h6
    | 7, hq => cases hq; exact h7
    | 8, hq => cases hq; exact h8
    | 9, hq => cases hq; exact h9
    | 10, hq => cases hq; exact h10
    | k + 11, hq => simp [vwCl] at hq
  · intro k q hq
    match k, hq with
    | 0, hq => cases hq; exact ya0
    | 1, hq => cases hq; exact ya1
    | 2, hq => cases hq; exact ya2
    | 3, hq => cases hq; exact ya3
    | 4, hq => cases hq; exact ya4
    | 5, hq => cases hq; exact ya5
    | k + 6, hq => simp [zTy] at hq
end ENV
