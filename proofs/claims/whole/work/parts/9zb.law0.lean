set_option maxRecDepth 20000 in
theorem wsL_law_in : ∀ w ∈ wsL_law, w ∈ lw_tbl := fun w h => (goodIn_p wsL_law [85, 88, 93, 99, 185, 205, 220, 809, 278, 282, 976, 980, 286, 290, 293, 297, 301, 305, 309, 313, 317, 320, 324, 331, 336, 340, 344, 348, 352, 356, 360, 364, 368, 371, 375, 379, 382, 386, 390, 394, 398, 402, 405, 411, 417, 420, 426, 423, 430, 434, 437, 441, 444, 448, 451, 454, 459, 463, 468, 472, 476, 481, 984, 988, 992, 995, 999, 1003, 1006, 1010, 1015, 1019, 1023, 1027, 1031, 1035, 1038, 1043, 1047, 1051, 1055, 1059, 1063, 1067, 1071, 1075, 1080, 1084, 1087, 1092, 1098, 1102, 1105, 1109, 1112, 1115, 1120, 1124, 1127, 1133, 1137, 1141, 485, 489, 1157, 1161, 495, 499, 1165, 1169, 504, 507, 1174, 515, 518, 1179, 1182, 1185, 525, 1193, 530, 1198, 535, 540, 1202, 1206, 547, 550, 1210, 554, 1216, 558, 1220, 562, 1225, 1228, 566, 1232, 571, 1237, 575, 1241, 580, 584, 1153, 588, 592, 1245, 596, 599, 1249, 1253, 1257, 606, 1261, 610, 614, 618, 1265, 1270, 623, 1274, 627, 631, 1278, 635, 1282, 1285, 639, 1289, 643, 647, 1293, 1297, 651, 1301, 656, 660, 1305, 665, 669, 674, 678, 681, 684, 1309, 1313, 1316, 1319, 688, 692, 1323, 696, 1327, 702, 705, 708, 1332, 1335, 712, 1339, 716, 719, 723, 1343, 1346, 727, 731, 735, 739, 743, 1350, 1354, 1358, 747, 751, 1362, 756, 1366, 760, 766, 1370, 771, 1374, 775, 1378, 779, 1382, 783, 1386, 1390, 790, 1145, 794, 1149, 798, 801, 1397, 1401] (by decide +kernel) (by decide +kernel) w h).1
/-! the law: calls in the world of both objects -/
section LWC
variable {p : Program} {l : Launch} {e : Env} {R : Room} {s : State} {m : MethodId} {args : Array Value} {below : List Frame} {meth : Method} {c : Code} {H H0 : Heap} {locs : List Loc} {cells slots : Nat} {Q : State → Prop}
variable {cc bytes : ByteArray} {pc nL maxL index n ci q0 N b fr lo : Nat} {ls : Array Slot} {D : va_G} {y : Nat → ClassId} {A : Nat → Prop} {wc wc' B : va_W} {Ts wd : List Cond} {own C : String} {T : u_T} {nm : MethodName} {ret : Option FieldType} {rv : Option Value} {As rest st0 : List Value} {fs : List Value} {a : Array Value}
theorem lw_callL (S : CallFix p m c cc nL s args Ts own) (hM : Ct l D y nm wd fr lo (.ref b :: As) wc wc' rv) (cw : CallW R s args own C index nm bytes maxL ret wd ({ frames := fr, cells := 0, slots := 0, locals := lo } : Room) 0 0 n) (hc : vwCl[ci]? = some (C, T, N)) (he : wc[q0]? = some (b, .inr (ci, fs))) (hn : As.length = n) (hsz : ls.size = nL) (hst : st0 = As.reverse ++ .ref b :: rest) (hW : (rest.map fun v => v.category).sum ≤ 8) (hdg : decode cc pc = .ok (.invokevirtual index, 3)) (hcs : cells ≤ R.cells ∧ slots ≤ R.slots)
    (hK : va_K D vwCl (dTy y) s) (hP : va_P D vwCl (wc ++ B) H) (hD : va_D A (wc ++ B)) (hS : va_S A H0 H locs) (hA : ∀ q, H0.size ≤ q → A q) (hlen : wc'.length = wc.length)
    (kk : ∀ (H1 : Heap) (locs1 : List Loc), va_P D vwCl (wc' ++ B) H1 → va_D A (wc' ++ B) → va_S A H0 H1 locs1 → W p l e R s m args below meth c H1 locs1 cells slots Q (F0 m (pc + 3) ls (rv.toList ++ rest))) : W p l e R s m args below meth c H locs cells slots Q (F0 m pc ls st0) := by
  have hC2 : (List.range wc.length).map (fun i => (wc ++ B)[i]?) = wc.map some := ct_left (ct_rng wc) B
  have hg : ∀ i a : Nat, (List.range wc.length)[i]? = some a → i = a := by
    intro i a h
    by_cases z : i < wc.length
    · rw [List.getElem?_range z] at h
      exact Option.some.inj h
    · rw [List.getElem?_eq_none (by simpa using z)] at h
      cases h
  refine ct_goP (va_runV S (hM H.size) cw (ct_preV hK (ct_sub hP hC2) (ct_subJ hD _ hC2 (fun i j a h1 h2 => (hg i a h1).trans (hg j a h2).symm)) hc he) rfl hn hsz hst (lv_room hW) hdg hcs) hP hD hS hA _ hC2 ?_ kk
  intro k q hq
  by_cases hk : k < wc.length
  · rw [List.getElem?_append_left (by omega)] at hq
    exact Or.inr ⟨k, List.getElem?_range hk, hq⟩
  · refine Or.inl ⟨fun h => hk (List.mem_range.mp h), ?_⟩
    rw [List.getElem?_append_right (by omega)] at hq ⊢
    rw [hlen] at hq
    exact hq
theorem lw_callR (S : CallFix p m c cc nL s args Ts own) (hM : Ct l D y nm wd fr lo (.ref b :: As) wc wc' rv) (cw : CallW R s args own C index nm bytes maxL ret wd ({ frames := fr, cells := 0, slots := 0, locals := lo } : Room) 0 0 n) (hc : vwCl[ci]? = some (C, T, N)) (he : wc[q0]? = some (b, .inr (ci, fs))) (hn : As.length = n) (hsz : ls.size = nL) (hst : st0 = As.reverse ++ .ref b :: rest) (hW : (rest.map fun v => v.category).sum ≤ 8) (hdg : decode cc pc = .ok (.invokevirtual index, 3)) (hcs : cells ≤ R.cells ∧ slots ≤ R.slots)
    (hK : va_K D vwCl (dTy y) s) (hP : va_P D vwCl (B ++ wc) H) (hD : va_D A (B ++ wc)) (hS : va_S A H0 H locs) (hA : ∀ q, H0.size ≤ q → A q) (hlen : wc'.length = wc.length)
    (kk : ∀ (H1 : Heap) (locs1 : List Loc), va_P D vwCl (B ++ wc') H1 → va_D A (B ++ wc') → va_S A H0 H1 locs1 → W p l e R s m args below meth c H1 locs1 cells slots Q (F0 m (pc + 3) ls (rv.toList ++ rest))) : W p l e R s m args below meth c H locs cells slots Q (F0 m pc ls st0) := by
  have hC2 := ct_tailC B wc
  have hg : ∀ i a : Nat, (ct_tail B.length wc.length)[i]? = some a → a = B.length + i := by
    intro i a h
    by_cases z : i < wc.length
    · rw [ct_tail_get z] at h
      exact (Option.some.inj h).symm
    · rw [List.getElem?_eq_none (by rw [ct_tail_len]; omega)] at h
      cases h
  refine ct_goP (va_runV S (hM H.size) cw (ct_preV hK (ct_sub hP hC2) (ct_subJ hD _ hC2 (fun i j a h1 h2 => by have := hg i a h1; have := hg j a h2; omega)) hc he) rfl hn hsz hst (lv_room hW) hdg hcs) hP hD hS hA _ hC2 ?_ kk
  intro k q hq
  by_cases hk : k < B.length
  · rw [List.getElem?_append_left hk] at hq
    refine Or.inl ⟨fun h => ?_, ?_⟩
    · have := ct_tail_mem.mp h
      omega
    · rw [List.getElem?_append_left hk]
      exact hq
  · rw [List.getElem?_append_right (by omega)] at hq
    have hlq := (List.getElem?_eq_some_iff.mp hq).1
    exact Or.inr ⟨k - B.length, by rw [ct_tail_get (by omega)]; congr 1; omega, hq⟩
end LWC
theorem W6_len {y : Nat → ClassId} {a : Nat → Nat} {s t : S6} : (W6 y a t).length = (W6 y a s).length := by
  unfold W6
  rw [List.length_append, List.length_append]
  exact congrArg₂ (· + ·) rfl w_blob_len
theorem W7_len {y : Nat → ClassId} {a : Nat → Nat} {s t : S7} : (W7 y a t).length = (W7 y a s).length := rfl
/-- the walk stands at pc, the states s6 and s7, the count i -/
def lw_go (p : Program) (l : Launch) (e : Env) (s : State) (m : MethodId) (below : List Frame) (meth : Method) (c : Code) (b : Nat) (D : va_G) (y : Nat → ClassId) (a a2 : Nat → Nat) (i : Nat) (pc : Nat) (s6 : S6) (s7 : S7) : Prop := ∀ (H : Heap) (locs : List Loc) (ls : Array Slot), va_P D vwCl (W6 y a s6 ++ W7 y a2 s7) H → va_D (fun q : Nat => s.heap.size ≤ q) (W6 y a s6 ++ W7 y a2 s7) → va_S (fun q : Nat => s.heap.size ≤ q) s.heap H locs → lv_has ls 4 [(0, .ref b), (1, .ref (a 0)), (2, .ref (a2 0)), (3, .int (nI i))] → W p l e room_1 s m #[Value.ref b] below meth c H locs 600000 7302249 (lw_Z below #[Value.ref b] s) (F0 m pc ls [])
theorem lw_ix {L i j : Nat} (hL : L ≤ 3072) (hi : i + 6 ≤ L) (hj : j < 6) {x : Int32} (hx : x = nI j) : vp_in (nI i + x) L := by
  rw [hx, nI_add]
  exact vp_in_nI (by omega) (by omega)
