theorem lw_c23 {p : Program} {l : Launch} {e : Env} {s : State} {m : MethodId} {below : List Frame} {meth : Method} {c : Code} {b L : Nat} {xs : Nat → Int32} {D : va_G} {y : Nat → ClassId} {a a2 : Nat → Nat} {i : Nat} {s6 : S6} {s7 : S7} (hL : L ≤ 3072) (C0 : lw_At p s m meth c b L xs) (hK : va_K D vwCl (dTy y) s) (R0 : Rel s6 s7) (hi : i + 6 ≤ L) (K : ∀ (t6 : S6) (t7 : S7), Rel t6 t7 → lw_go p l e s m below meth c b D y a a2 i 1584 t6 t7) : lw_go p l e s m below meth c b D y a a2 i 877 s6 s7 := by
  obtain ⟨hx, hb, hr, hml, hown, hts0, hX, hbl, hlocks, hgv⟩ := C0
  have hts : ∀ w ∈ wsL_law, w.before #[Value.ref b] s = true := fun w h => hts0 w (wsL_law_in w h)
  have hA : ∀ q : Nat, s.heap.size ≤ q → (fun q : Nat => s.heap.size ≤ q) q := fun _ h => h
  have hbA : ¬ (fun q : Nat => s.heap.size ≤ q) b := Nat.not_le.mpr hbl
  have v1 : vp_in (nI i + (1 : Int32)) L := lw_ix hL hi (j := 1) (by omega) rfl
  obtain ⟨v, t6, t7, f6, f7, R1⟩ := s_most a a2 R0 (xs (nI i + (1 : Int32)).toNatClampNeg)
  intro H locs ls hP hD hS hl
  refine lv_aload_n hx hb dL_law_877 rfl (lv_at hl 1 rfl) ?_
  refine lv_aload_n hx hb dL_law_878 rfl (lv_at hl 0 rfl) ?_
  refine lv_iload_n hx hb dL_law_879 rfl (lv_at hl 3 rfl) ?_
  refine lv_iconst (v := 1) hx hb dL_law_880 (by decide) ?_
  refine lv_iadd hx hb dL_law_881 ?_
  refine va_sld hx hb hX hbl hbA hS v1 dL_law_882 ?_
  refine lw_callL (ci := 5) (q0 := 0) (own := RL) (As := [.int (xs (nI i + (1 : Int32)).toNatClampNeg)]) (rest := []) ⟨hx, hb, hml, hown, hts⟩ (M6_most l D y a s6 t6 (xs (nI i + (1 : Int32)).toNatClampNeg) v f6) (cwV 1 hts (gA_V wl_828 wl_829 wl_830 wl_2 wl_831) rfl rfl rfl (by decide +kernel) ⟨Nat.le_of_ble_eq_true rfl, Nat.le_of_ble_eq_true rfl⟩) rfl rfl rfl hl.1 rfl (Nat.le_of_ble_eq_true rfl) dL_law_883 ⟨Nat.le_refl _, Nat.le_refl _⟩ hK hP hD hS hA W6_len (fun H locs hP hD hS => ?_)
  refine lv_aload_n hx hb dL_law_886 rfl (lv_at hl 2 rfl) ?_
  refine lv_aload_n hx hb dL_law_887 rfl (lv_at hl 0 rfl) ?_
  refine lv_iload_n hx hb dL_law_888 rfl (lv_at hl 3 rfl) ?_
  refine lv_iconst (v := 1) hx hb dL_law_889 (by decide) ?_
  refine lv_iadd hx hb dL_law_890 ?_
  refine va_sld hx hb hX hbl hbA hS v1 dL_law_891 ?_
  refine lw_callR (ci := 6) (q0 := 0) (own := RL) (As := [.int (xs (nI i + (1 : Int32)).toNatClampNeg)]) (rest := [.int v]) ⟨hx, hb, hml, hown, hts⟩ (M7_most l D y a2 s7 t7 (xs (nI i + (1 : Int32)).toNatClampNeg) v f7) (cwV 1 hts (gA_V wl_832 wl_833 wl_834 wl_5 wl_835) rfl rfl rfl (by decide +kernel) ⟨Nat.le_of_ble_eq_true rfl, Nat.le_of_ble_eq_true rfl⟩) rfl rfl rfl hl.1 rfl (Nat.le_of_ble_eq_true rfl) dL_law_892 ⟨Nat.le_refl _, Nat.le_refl _⟩ hK hP hD hS hA W7_len (fun H locs hP hD hS => ?_)
  refine lv_icmp_eq (tgt := 1584) hx hb dL_law_895 (by decide) (fun _ => ?_) (fun z => absurd rfl z)
  exact K t6 t7 R1 H locs ls hP hD hS hl
theorem lw_c24 {p : Program} {l : Launch} {e : Env} {s : State} {m : MethodId} {below : List Frame} {meth : Method} {c : Code} {b L : Nat} {xs : Nat → Int32} {D : va_G} {y : Nat → ClassId} {a a2 : Nat → Nat} {i : Nat} {s6 : S6} {s7 : S7} (hL : L ≤ 3072) (C0 : lw_At p s m meth c b L xs) (hK : va_K D vwCl (dTy y) s) (R0 : Rel s6 s7) (hi : i + 6 ≤ L) (K : ∀ (t6 : S6) (t7 : S7), Rel t6 t7 → lw_go p l e s m below meth c b D y a a2 i 1584 t6 t7) : lw_go p l e s m below meth c b D y a a2 i 900 s6 s7 := by
  obtain ⟨hx, hb, hr, hml, hown, hts0, hX, hbl, hlocks, hgv⟩ := C0
  have hts : ∀ w ∈ wsL_law, w.before #[Value.ref b] s = true := fun w h => hts0 w (wsL_law_in w h)
  have hA : ∀ q : Nat, s.heap.size ≤ q → (fun q : Nat => s.heap.size ≤ q) q := fun _ h => h
  have hbA : ¬ (fun q : Nat => s.heap.size ≤ q) b := Nat.not_le.mpr hbl
  have v1 : vp_in (nI i + (1 : Int32)) L := lw_ix hL hi (j := 1) (by omega) rfl
  have v2 : vp_in (nI i + (2 : Int32)) L := lw_ix hL hi (j := 2) (by omega) rfl
  obtain ⟨v, t6, t7, f6, f7, R1⟩ := s_leapt a a2 R0 (xs (nI i + (1 : Int32)).toNatClampNeg) (xs (nI i + (2 : Int32)).toNatClampNeg)
  intro H locs ls hP hD hS hl
  refine lv_aload_n hx hb dL_law_900 rfl (lv_at hl 1 rfl) ?_
  refine lv_aload_n hx hb dL_law_901 rfl (lv_at hl 0 rfl) ?_
  refine lv_iload_n hx hb dL_law_902 rfl (lv_at hl 3 rfl) ?_
  refine lv_iconst (v := 1) hx hb dL_law_903 (by decide) ?_
  refine lv_iadd hx hb dL_law_904 ?_
  refine va_sld hx hb hX hbl hbA hS v1 dL_law_905 ?_
  refine lv_aload_n hx hb dL_law_906 rfl (lv_at hl 0 rfl) ?_
  refine lv_iload_n hx hb dL_law_907 rfl (lv_at hl 3 rfl) ?_
  refine lv_iconst (v := 2) hx hb dL_law_908 (by decide) ?_
  refine lv_iadd hx hb dL_law_909 ?_
  refine va_sld hx hb hX hbl hbA hS v2 dL_law_910 ?_
  refine lw_callL (ci := 5) (q0 := 0) (own := RL) (As := [.int (xs (nI i + (1 : Int32)).toNatClampNeg), .int (xs (nI i + (2 : Int32)).toNatClampNeg)]) (rest := []) ⟨hx, hb, hml, hown, hts⟩ (M6_leapt l D y a s6 t6 (xs (nI i + (1 : Int32)).toNatClampNeg) (xs (nI i + (2 : Int32)).toNatClampNeg) v f6) (cwV 2 hts (gA_V wl_839 wl_840 wl_841 wl_2 wl_842) rfl rfl rfl (by decide +kernel) ⟨Nat.le_of_ble_eq_true rfl, Nat.le_of_ble_eq_true rfl⟩) rfl rfl rfl hl.1 rfl (Nat.le_of_ble_eq_true rfl) dL_law_911 ⟨Nat.le_refl _, Nat.le_refl _⟩ hK hP hD hS hA W6_len (fun H locs hP hD hS => ?_)
  refine lv_aload_n hx hb dL_law_914 rfl (lv_at hl 2 rfl) ?_
  refine lv_aload_n hx hb dL_law_915 rfl (lv_at hl 0 rfl) ?_
  refine lv_iload_n hx hb dL_law_916 rfl (lv_at hl 3 rfl) ?_
  refine lv_iconst (v := 1) hx hb dL_law_917 (by decide) ?_
  refine lv_iadd hx hb dL_law_918 ?_
  refine va_sld hx hb hX hbl hbA hS v1 dL_law_919 ?_
  refine lv_aload_n hx hb dL_law_920 rfl (lv_at hl 0 rfl) ?_
  refine lv_iload_n hx hb dL_law_921 rfl (lv_at hl 3 rfl) ?_
  refine lv_iconst (v := 2) hx hb dL_law_922 (by decide) ?_
  refine lv_iadd hx hb dL_law_923 ?_
  refine va_sld hx hb hX hbl hbA hS v2 dL_law_924 ?_
  refine lw_callR (ci := 6) (q0 := 0) (own := RL) (As := [.int (xs (nI i + (1 : Int32)).toNatClampNeg), .int (xs (nI i + (2 : Int32)).toNatClampNeg)]) (rest := [.int v]) ⟨hx, hb, hml, hown, hts⟩ (M7_leapt l D y a2 s7 t7 (xs (nI i + (1 : Int32)).toNatClampNeg) (xs (nI i + (2 : Int32)).toNatClampNeg) v f7) (cwV 2 hts (gA_V wl_843 wl_844 wl_845 wl_5 wl_846) rfl rfl rfl (by decide +kernel) ⟨Nat.le_of_ble_eq_true rfl, Nat.le_of_ble_eq_true rfl⟩) rfl rfl rfl hl.1 rfl (Nat.le_of_ble_eq_true rfl) dL_law_925 ⟨Nat.le_refl _, Nat.le_refl _⟩ hK hP hD hS hA W7_len (fun H locs hP hD hS => ?_)
  refine lv_icmp_eq (tgt := 1584) hx hb dL_law_928 (by decide) (fun _ => ?_) (fun z => absurd rfl z)
  exact K t6 t7 R1 H locs ls hP hD hS hl
theorem lw_c25 {p : Program} {l : Launch} {e : Env} {s : State} {m : MethodId} {below : List Frame} {meth : Method} {c : Code} {b L : Nat} {xs : Nat → Int32} {D : va_G} {y : Nat → ClassId} {a a2 : Nat → Nat} {i : Nat} {s6 : S6} {s7 : S7} (hL : L ≤ 3072) (C0 : lw_At p s m meth c b L xs) (hK : va_K D vwCl (dTy y) s) (R0 : Rel s6 s7) (hi : i + 6 ≤ L) (K : ∀ (t6 : S6) (t7 : S7), Rel t6 t7 → lw_go p l e s m below meth c b D y a a2 i 1584 t6 t7) : lw_go p l e s m below meth c b D y a a2 i 933 s6 s7 := by
  obtain ⟨hx, hb, hr, hml, hown, hts0, hX, hbl, hlocks, hgv⟩ := C0
  have hts : ∀ w ∈ wsL_law, w.before #[Value.ref b] s = true := fun w h => hts0 w (wsL_law_in w h)
  have hA : ∀ q : Nat, s.heap.size ≤ q → (fun q : Nat => s.heap.size ≤ q) q := fun _ h => h
  have hbA : ¬ (fun q : Nat => s.heap.size ≤ q) b := Nat.not_le.mpr hbl
  have v1 : vp_in (nI i + (1 : Int32)) L := lw_ix hL hi (j := 1) (by omega) rfl
  have v2 : vp_in (nI i + (2 : Int32)) L := lw_ix hL hi (j := 2) (by omega) rfl
  obtain ⟨v, t6, t7, f6, f7, R1⟩ := s_whatKind a a2 R0 (xs (nI i + (1 : Int32)).toNatClampNeg) (xs (nI i + (2 : Int32)).toNatClampNeg)
  intro H locs ls hP hD hS hl
  refine lv_aload_n hx hb dL_law_933 rfl (lv_at hl 1 rfl) ?_
  refine lv_aload_n hx hb dL_law_934 rfl (lv_at hl 0 rfl) ?_
  refine lv_iload_n hx hb dL_law_935 rfl (lv_at hl 3 rfl) ?_
  refine lv_iconst (v := 1) hx hb dL_law_936 (by decide) ?_
  refine lv_iadd hx hb dL_law_937 ?_
  refine va_sld hx hb hX hbl hbA hS v1 dL_law_938 ?_
  refine lv_aload_n hx hb dL_law_939 rfl (lv_at hl 0 rfl) ?_
  refine lv_iload_n hx hb dL_law_940 rfl (lv_at hl 3 rfl) ?_
  refine lv_iconst (v := 2) hx hb dL_law_941 (by decide) ?_
  refine lv_iadd hx hb dL_law_942 ?_
  refine va_sld hx hb hX hbl hbA hS v2 dL_law_943 ?_
  refine lw_callL (ci := 5) (q0 := 0) (own := RL) (As := [.int (xs (nI i + (1 : Int32)).toNatClampNeg), .int (xs (nI i + (2 : Int32)).toNatClampNeg)]) (rest := []) ⟨hx, hb, hml, hown, hts⟩ (M6_whatKind l D y a s6 t6 (xs (nI i + (1 : Int32)).toNatClampNeg) (xs (nI i + (2 : Int32)).toNatClampNeg) v f6) (cwV 2 hts (gA_V wl_847 wl_848 wl_849 wl_2 wl_850) rfl rfl rfl (by decide +kernel) ⟨Nat.le_of_ble_eq_true rfl, Nat.le_of_ble_eq_true rfl⟩) rfl rfl rfl hl.1 rfl (Nat.le_of_ble_eq_true rfl) dL_law_944 ⟨Nat.le_refl _, Nat.le_refl _⟩ hK hP hD hS hA W6_len (fun H locs hP hD hS => ?_)
  refine lv_aload_n hx hb dL_law_947 rfl (lv_at hl 2 rfl) ?_
  refine lv_aload_n hx hb dL_law_948 rfl (lv_at hl 0 rfl) ?_
  refine lv_iload_n hx hb dL_law_949 rfl (lv_at hl 3 rfl) ?_
  refine lv_iconst (v := 1) hx hb dL_law_950 (by decide) ?_
  refine lv_iadd hx hb dL_law_951 ?_
  refine va_sld hx hb hX hbl hbA hS v1 dL_law_952 ?_
  refine lv_aload_n hx hb dL_law_953 rfl (lv_at hl 0 rfl) ?_
  refine lv_iload_n hx hb dL_law_954 rfl (lv_at hl 3 rfl) ?_
  refine lv_iconst (v := 2) hx hb dL_law_955 (by decide) ?_
  refine lv_iadd hx hb dL_law_956 ?_
  refine va_sld hx hb hX hbl hbA hS v2 dL_law_957 ?_
  refine lw_callR (ci := 6) (q0 := 0) (own := RL) (As := [.int (xs (nI i + (1 : Int32)).toNatClampNeg), .int (xs (nI i + (2 : Int32)).toNatClampNeg)]) (rest := [.int v]) ⟨hx, hb, hml, hown, hts⟩ (M7_whatKind l D y a2 s7 t7 (xs (nI i + (1 : Int32)).toNatClampNeg) (xs (nI i + (2 : Int32)).toNatClampNeg) v f7) (cwV 2 hts (gA_V wl_856 wl_857 wl_858 wl_5 wl_859) rfl rfl rfl (by decide +kernel) ⟨Nat.le_of_ble_eq_true rfl, Nat.le_of_ble_eq_true rfl⟩) rfl rfl rfl hl.1 rfl (Nat.le_of_ble_eq_true rfl) dL_law_958 ⟨Nat.le_refl _, Nat.le_refl _⟩ hK hP hD hS hA W7_len (fun H locs hP hD hS => ?_)
  refine lv_icmp_eq (tgt := 1584) hx hb dL_law_961 (by decide) (fun _ => ?_) (fun z => absurd rfl z)
  exact K t6 t7 R1 H locs ls hP hD hS hl
theorem lw_c26 {p : Program} {l : Launch} {e : Env} {s : State} {m : MethodId} {below : List Frame} {meth : Method} {c : Code} {b L : Nat} {xs : Nat → Int32} {D : va_G} {y : Nat → ClassId} {a a2 : Nat → Nat} {i : Nat} {s6 : S6} {s7 : S7} (hL : L ≤ 3072) (C0 : lw_At p s m meth c b L xs) (hK : va_K D vwCl (dTy y) s) (R0 : Rel s6 s7) (hi : i + 6 ≤ L) (K : ∀ (t6 : S6) (t7 : S7), Rel t6 t7 → lw_go p l e s m below meth c b D y a a2 i 1584 t6 t7) : lw_go p l e s m below meth c b D y a a2 i 966 s6 s7 := by
  obtain ⟨hx, hb, hr, hml, hown, hts0, hX, hbl, hlocks, hgv⟩ := C0
  have hts : ∀ w ∈ wsL_law, w.before #[Value.ref b] s = true := fun w h => hts0 w (wsL_law_in w h)
  have hA : ∀ q : Nat, s.heap.size ≤ q → (fun q : Nat => s.heap.size ≤ q) q := fun _ h => h
  have hbA : ¬ (fun q : Nat => s.heap.size ≤ q) b := Nat.not_le.mpr hbl
  have v1 : vp_in (nI i + (1 : Int32)) L := lw_ix hL hi (j := 1) (by omega) rfl
  have v2 : vp_in (nI i + (2 : Int32)) L := lw_ix hL hi (j := 2) (by omega) rfl
  have v3 : vp_in (nI i + (3 : Int32)) L := lw_ix hL hi (j := 3) (by omega) rfl
  obtain ⟨v, t6, t7, f6, f7, R1⟩ := s_howCold a a2 R0 (xs (nI i + (1 : Int32)).toNatClampNeg) (xs (nI i + (2 : Int32)).toNatClampNeg) (xs (nI i + (3 : Int32)).toNatClampNeg)
  intro H locs ls hP hD hS hl
  refine lv_aload_n hx hb dL_law_966 rfl (lv_at hl 1 rfl) ?_
  refine lv_aload_n hx hb dL_law_967 rfl (lv_at hl 0 rfl) ?_
  refine lv_iload_n hx hb dL_law_968 rfl (lv_at hl 3 rfl) ?_
  refine lv_iconst (v := 1) hx hb dL_law_969 (by decide) ?_
  refine lv_iadd hx hb dL_law_970 ?_
  refine va_sld hx hb hX hbl hbA hS v1 dL_law_971 ?_
  refine lv_aload_n hx hb dL_law_972 rfl (lv_at hl 0 rfl) ?_
  refine lv_iload_n hx hb dL_law_973 rfl (lv_at hl 3 rfl) ?_
  refine lv_iconst (v := 2) hx hb dL_law_974 (by decide) ?_
  refine lv_iadd hx hb dL_law_975 ?_
  refine va_sld hx hb hX hbl hbA hS v2 dL_law_976 ?_
  refine lv_aload_n hx hb dL_law_977 rfl (lv_at hl 0 rfl) ?_
  refine lv_iload_n hx hb dL_law_978 rfl (lv_at hl 3 rfl) ?_
  refine lv_iconst (v := 3) hx hb dL_law_979 (by decide) ?_
  refine lv_iadd hx hb dL_law_980 ?_
  refine va_sld hx hb hX hbl hbA hS v3 dL_law_981 ?_
  refine lw_callL (ci := 5) (q0 := 0) (own := RL) (As := [.int (xs (nI i + (1 : Int32)).toNatClampNeg), .int (xs (nI i + (2 : Int32)).toNatClampNeg), .int (xs (nI i + (3 : Int32)).toNatClampNeg)]) (rest := []) ⟨hx, hb, hml, hown, hts⟩ (M6_howCold l D y a s6 t6 (xs (nI i + (1 : Int32)).toNatClampNeg) (xs (nI i + (2 : Int32)).toNatClampNeg) (xs (nI i + (3 : Int32)).toNatClampNeg) v f6) (cwV 3 hts (gA_V wl_865 wl_866 wl_867 wl_2 wl_868) rfl rfl rfl (by decide +kernel) ⟨Nat.le_of_ble_eq_true rfl, Nat.le_of_ble_eq_true rfl⟩) rfl rfl rfl hl.1 rfl (Nat.le_of_ble_eq_true rfl) dL_law_982 ⟨Nat.le_refl _, Nat.le_refl _⟩ hK hP hD hS hA W6_len (fun H locs hP hD hS => ?_)
  refine lv_aload_n hx hb dL_law_985 rfl (lv_at hl 2 rfl) ?_
  refine lv_aload_n hx hb dL_law_986 rfl (lv_at hl 0 rfl) ?_
  refine lv_iload_n hx hb dL_law_987 rfl (lv_at hl 3 rfl) ?_
  refine lv_iconst (v := 1) hx hb dL_law_988 (by decide) ?_
  refine lv_iadd hx hb dL_law_989 ?_
  refine va_sld hx hb hX hbl hbA hS v1 dL_law_990 ?_
  refine lv_aload_n hx hb dL_law_991 rfl (lv_at hl 0 rfl) ?_
  refine lv_iload_n hx hb dL_law_992 rfl (lv_at hl 3 rfl) ?_
  refine lv_iconst (v := 2) hx hb dL_law_993 (by decide) ?_
  refine lv_iadd hx hb dL_law_994 ?_
  refine va_sld hx hb hX hbl hbA hS v2 dL_law_995 ?_
  refine lv_aload_n hx hb dL_law_996 rfl (lv_at hl 0 rfl) ?_
  refine lv_iload_n hx hb dL_law_997 rfl (lv_at hl 3 rfl) ?_
  refine lv_iconst (v := 3) hx hb dL_law_998 (by decide) ?_
  refine lv_iadd hx hb dL_law_999 ?_
  refine va_sld hx hb hX hbl hbA hS v3 dL_law_1000 ?_
  refine lw_callR (ci := 6) (q0 := 0) (own := RL) (As := [.int (xs (nI i + (1 : Int32)).toNatClampNeg), .int (xs (nI i + (2 : Int32)).toNatClampNeg), .int (xs (nI i + (3 : Int32)).toNatClampNeg)]) (rest := [.int v]) ⟨hx, hb, hml, hown, hts⟩ (M7_howCold l D y a2 s7 t7 (xs (nI i + (1 : Int32)).toNatClampNeg) (xs (nI i + (2 : Int32)).toNatClampNeg) (xs (nI i + (3 : Int32)).toNatClampNeg) v f7) (cwV 3 hts (gA_V wl_870 wl_871 wl_872 wl_5 wl_873) rfl rfl rfl (by decide +kernel) ⟨Nat.le_of_ble_eq_true rfl, Nat.le_of_ble_eq_true rfl⟩) rfl rfl rfl hl.1 rfl (Nat.le_of_ble_eq_true rfl) dL_law_1001 ⟨Nat.le_refl _, Nat.le_refl _⟩ hK hP hD hS hA W7_len (fun H locs hP hD hS => ?_)
  refine lv_icmp_eq (tgt := 1584) hx hb dL_law_1004 (by decide) (fun _ => ?_) (fun z => absurd rfl z)
  exact K t6 t7 R1 H locs ls hP hD hS hl
theorem lw_c27 {p : Program} {l : Launch} {e : Env} {s : State} {m : MethodId} {below : List Frame} {meth : Method} {c : Code} {b L : Nat} {xs : Nat → Int32} {D : va_G} {y : Nat → ClassId} {a a2 : Nat → Nat} {i : Nat} {s6 : S6} {s7 : S7} (hL : L ≤ 3072) (C0 : lw_At p s m meth c b L xs) (hK : va_K D vwCl (dTy y) s) (R0 : Rel s6 s7) (hi : i + 6 ≤ L) (K : ∀ (t6 : S6) (t7 : S7), Rel t6 t7 → lw_go p l e s m below meth c b D y a a2 i 1584 t6 t7) : lw_go p l e s m below meth c b D y a a2 i 1009 s6 s7 := by
  obtain ⟨hx, hb, hr, hml, hown, hts0, hX, hbl, hlocks, hgv⟩ := C0
  have hts : ∀ w ∈ wsL_law, w.before #[Value.ref b] s = true := fun w h => hts0 w (wsL_law_in w h)
  have hA : ∀ q : Nat, s.heap.size ≤ q → (fun q : Nat => s.heap.size ≤ q) q := fun _ h => h
  have hbA : ¬ (fun q : Nat => s.heap.size ≤ q) b := Nat.not_le.mpr hbl
  have v1 : vp_in (nI i + (1 : Int32)) L := lw_ix hL hi (j := 1) (by omega) rfl
  have v2 : vp_in (nI i + (2 : Int32)) L := lw_ix hL hi (j := 2) (by omega) rfl
  have v3 : vp_in (nI i + (3 : Int32)) L := lw_ix hL hi (j := 3) (by omega) rfl
  obtain ⟨v, t6, t7, f6, f7, R1⟩ := s_two a a2 R0 (xs (nI i + (1 : Int32)).toNatClampNeg) (xs (nI i + (2 : Int32)).toNatClampNeg) (xs (nI i + (3 : Int32)).toNatClampNeg)
  intro H locs ls hP hD hS hl
  refine lv_aload_n hx hb dL_law_1009 rfl (lv_at hl 1 rfl) ?_
  refine lv_aload_n hx hb dL_law_1010 rfl (lv_at hl 0 rfl) ?_
  refine lv_iload_n hx hb dL_law_1011 rfl (lv_at hl 3 rfl) ?_
  refine lv_iconst (v := 1) hx hb dL_law_1012 (by decide) ?_
  refine lv_iadd hx hb dL_law_1013 ?_
  refine va_sld hx hb hX hbl hbA hS v1 dL_law_1014 ?_
  refine lv_aload_n hx hb dL_law_1015 rfl (lv_at hl 0 rfl) ?_
  refine lv_iload_n hx hb dL_law_1016 rfl (lv_at hl 3 rfl) ?_
  refine lv_iconst (v := 2) hx hb dL_law_1017 (by decide) ?_
  refine lv_iadd hx hb dL_law_1018 ?_
  refine va_sld hx hb hX hbl hbA hS v2 dL_law_1019 ?_
  refine lv_aload_n hx hb dL_law_1020 rfl (lv_at hl 0 rfl) ?_
  refine lv_iload_n hx hb dL_law_1021 rfl (lv_at hl 3 rfl) ?_
  refine lv_iconst (v := 3) hx hb dL_law_1022 (by decide) ?_
  refine lv_iadd hx hb dL_law_1023 ?_
  refine va_sld hx hb hX hbl hbA hS v3 dL_law_1024 ?_
  refine lw_callL (ci := 5) (q0 := 0) (own := RL) (As := [.int (xs (nI i + (1 : Int32)).toNatClampNeg), .int (xs (nI i + (2 : Int32)).toNatClampNeg), .int (xs (nI i + (3 : Int32)).toNatClampNeg)]) (rest := []) ⟨hx, hb, hml, hown, hts⟩ (M6_two l D y a s6 t6 (xs (nI i + (1 : Int32)).toNatClampNeg) (xs (nI i + (2 : Int32)).toNatClampNeg) (xs (nI i + (3 : Int32)).toNatClampNeg) v f6) (cwV 3 hts (gA_V wl_874 wl_875 wl_876 wl_2 wl_877) rfl rfl rfl (by decide +kernel) ⟨Nat.le_of_ble_eq_true rfl, Nat.le_of_ble_eq_true rfl⟩) rfl rfl rfl hl.1 rfl (Nat.le_of_ble_eq_true rfl) dL_law_1025 ⟨Nat.le_refl _, Nat.le_refl _⟩ hK hP hD hS hA W6_len (fun H locs hP hD hS => ?_)
  refine lv_aload_n hx hb dL_law_1028 rfl (lv_at hl 2 rfl) ?_
  refine lv_aload_n hx hb dL_law_1029 rfl (lv_at hl 0 rfl) ?_
  refine lv_iload_n hx hb dL_law_1030 rfl (lv_at hl 3 rfl) ?_
  refine lv_iconst (v := 1) hx hb dL_law_1031 (by decide) ?_
  refine lv_iadd hx hb dL_law_1032 ?_
  refine va_sld hx hb hX hbl hbA hS v1 dL_law_1033 ?_
  refine lv_aload_n hx hb dL_law_1034 rfl (lv_at hl 0 rfl) ?_
  refine lv_iload_n hx hb dL_law_1035 rfl (lv_at hl 3 rfl) ?_
  refine lv_iconst (v := 2) hx hb dL_law_1036 (by decide) ?_
  refine lv_iadd hx hb dL_law_1037 ?_
  refine va_sld hx hb hX hbl hbA hS v2 dL_law_1038 ?_
  refine lv_aload_n hx hb dL_law_1039 rfl (lv_at hl 0 rfl) ?_
  refine lv_iload_n hx hb dL_law_1040 rfl (lv_at hl 3 rfl) ?_
  refine lv_iconst (v := 3) hx hb dL_law_1041 (by decide) ?_
  refine lv_iadd hx hb dL_law_1042 ?_
  refine va_sld hx hb hX hbl hbA hS v3 dL_law_1043 ?_
  refine lw_callR (ci := 6) (q0 := 0) (own := RL) (As := [.int (xs (nI i + (1 : Int32)).toNatClampNeg), .int (xs (nI i + (2 : Int32)).toNatClampNeg), .int (xs (nI i + (3 : Int32)).toNatClampNeg)]) (rest := [.int v]) ⟨hx, hb, hml, hown, hts⟩ (M7_two l D y a2 s7 t7 (xs (nI i + (1 : Int32)).toNatClampNeg) (xs (nI i + (2 : Int32)).toNatClampNeg) (xs (nI i + (3 : Int32)).toNatClampNeg) v f7) (cwV 3 hts (gA_V wl_883 wl_884 wl_885 wl_5 wl_886) rfl rfl rfl (by decide +kernel) ⟨Nat.le_of_ble_eq_true rfl, Nat.le_of_ble_eq_true rfl⟩) rfl rfl rfl hl.1 rfl (Nat.le_of_ble_eq_true rfl) dL_law_1044 ⟨Nat.le_refl _, Nat.le_refl _⟩ hK hP hD hS hA W7_len (fun H locs hP hD hS => ?_)
  refine lv_icmp_eq (tgt := 1584) hx hb dL_law_1047 (by decide) (fun _ => ?_) (fun z => absurd rfl z)
  exact K t6 t7 R1 H locs ls hP hD hS hl
theorem lw_c28 {p : Program} {l : Launch} {e : Env} {s : State} {m : MethodId} {below : List Frame} {meth : Method} {c : Code} {b L : Nat} {xs : Nat → Int32} {D : va_G} {y : Nat → ClassId} {a a2 : Nat → Nat} {i : Nat} {s6 : S6} {s7 : S7} (hL : L ≤ 3072) (C0 : lw_At p s m meth c b L xs) (hK : va_K D vwCl (dTy y) s) (R0 : Rel s6 s7) (hi : i + 6 ≤ L) (K : ∀ (t6 : S6) (t7 : S7), Rel t6 t7 → lw_go p l e s m below meth c b D y a a2 i 1584 t6 t7) : lw_go p l e s m below meth c b D y a a2 i 1052 s6 s7 := by
  obtain ⟨hx, hb, hr, hml, hown, hts0, hX, hbl, hlocks, hgv⟩ := C0
  have hts : ∀ w ∈ wsL_law, w.before #[Value.ref b] s = true := fun w h => hts0 w (wsL_law_in w h)
  have hA : ∀ q : Nat, s.heap.size ≤ q → (fun q : Nat => s.heap.size ≤ q) q := fun _ h => h
  have hbA : ¬ (fun q : Nat => s.heap.size ≤ q) b := Nat.not_le.mpr hbl
  have v1 : vp_in (nI i + (1 : Int32)) L := lw_ix hL hi (j := 1) (by omega) rfl
  have v2 : vp_in (nI i + (2 : Int32)) L := lw_ix hL hi (j := 2) (by omega) rfl
  have v3 : vp_in (nI i + (3 : Int32)) L := lw_ix hL hi (j := 3) (by omega) rfl
  have v4 : vp_in (nI i + (4 : Int32)) L := lw_ix hL hi (j := 4) (by omega) rfl
  obtain ⟨v, t6, t7, f6, f7, R1⟩ := s_still a a2 R0 (xs (nI i + (1 : Int32)).toNatClampNeg) (xs (nI i + (2 : Int32)).toNatClampNeg) (xs (nI i + (3 : Int32)).toNatClampNeg) (xs (nI i + (4 : Int32)).toNatClampNeg)
  intro H locs ls hP hD hS hl
  refine lv_aload_n hx hb dL_law_1052 rfl (lv_at hl 1 rfl) ?_
  refine lv_aload_n hx hb dL_law_1053 rfl (lv_at hl 0 rfl) ?_
  refine lv_iload_n hx hb dL_law_1054 rfl (lv_at hl 3 rfl) ?_
  refine lv_iconst (v := 1) hx hb dL_law_1055 (by decide) ?_
  refine lv_iadd hx hb dL_law_1056 ?_
  refine va_sld hx hb hX hbl hbA hS v1 dL_law_1057 ?_
  refine lv_aload_n hx hb dL_law_1058 rfl (lv_at hl 0 rfl) ?_
  refine lv_iload_n hx hb dL_law_1059 rfl (lv_at hl 3 rfl) ?_
  refine lv_iconst (v := 2) hx hb dL_law_1060 (by decide) ?_
  refine lv_iadd hx hb dL_law_1061 ?_
  refine va_sld hx hb hX hbl hbA hS v2 dL_law_1062 ?_
  refine lv_aload_n hx hb dL_law_1063 rfl (lv_at hl 0 rfl) ?_
  refine lv_iload_n hx hb dL_law_1064 rfl (lv_at hl 3 rfl) ?_
  refine lv_iconst (v := 3) hx hb dL_law_1065 (by decide) ?_
  refine lv_iadd hx hb dL_law_1066 ?_
  refine va_sld hx hb hX hbl hbA hS v3 dL_law_1067 ?_
  refine lv_aload_n hx hb dL_law_1068 rfl (lv_at hl 0 rfl) ?_
  refine lv_iload_n hx hb dL_law_1069 rfl (lv_at hl 3 rfl) ?_
  refine lv_iconst (v := 4) hx hb dL_law_1070 (by decide) ?_
  refine lv_iadd hx hb dL_law_1071 ?_
  refine va_sld hx hb hX hbl hbA hS v4 dL_law_1072 ?_
  refine lw_callL (ci := 5) (q0 := 0) (own := RL) (As := [.int (xs (nI i + (1 : Int32)).toNatClampNeg), .int (xs (nI i + (2 : Int32)).toNatClampNeg), .int (xs (nI i + (3 : Int32)).toNatClampNeg), .int (xs (nI i + (4 : Int32)).toNatClampNeg)]) (rest := []) ⟨hx, hb, hml, hown, hts⟩ (M6_still l D y a s6 t6 (xs (nI i + (1 : Int32)).toNatClampNeg) (xs (nI i + (2 : Int32)).toNatClampNeg) (xs (nI i + (3 : Int32)).toNatClampNeg) (xs (nI i + (4 : Int32)).toNatClampNeg) v f6) (cwV 4 hts (gA_V wl_887 wl_888 wl_889 wl_2 wl_890) rfl rfl rfl (by decide +kernel) ⟨Nat.le_of_ble_eq_true rfl, Nat.le_of_ble_eq_true rfl⟩) rfl rfl rfl hl.1 rfl (Nat.le_of_ble_eq_true rfl) dL_law_1073 ⟨Nat.le_refl _, Nat.le_refl _⟩ hK hP hD hS hA W6_len (fun H locs hP hD hS => ?_)
  refine lv_aload_n hx hb dL_law_1076 rfl (lv_at hl 2 rfl) ?_
  refine lv_aload_n hx hb dL_law_1077 rfl (lv_at hl 0 rfl) ?_
  refine lv_iload_n hx hb dL_law_1078 rfl (lv_at hl 3 rfl) ?_
  refine lv_iconst (v := 1) hx hb dL_law_1079 (by decide) ?_
  refine lv_iadd hx hb dL_law_1080 ?_
  refine va_sld hx hb hX hbl hbA hS v1 dL_law_1081 ?_
  refine lv_aload_n hx hb dL_law_1082 rfl (lv_at hl 0 rfl) ?_
  refine lv_iload_n hx hb dL_law_1083 rfl (lv_at hl 3 rfl) ?_
  refine lv_iconst (v := 2) hx hb dL_law_1084 (by decide) ?_
  refine lv_iadd hx hb dL_law_1085 ?_
  refine va_sld hx hb hX hbl hbA hS v2 dL_law_1086 ?_
  refine lv_aload_n hx hb dL_law_1087 rfl (lv_at hl 0 rfl) ?_
  refine lv_iload_n hx hb dL_law_1088 rfl (lv_at hl 3 rfl) ?_
  refine lv_iconst (v := 3) hx hb dL_law_1089 (by decide) ?_
  refine lv_iadd hx hb dL_law_1090 ?_
  refine va_sld hx hb hX hbl hbA hS v3 dL_law_1091 ?_
  refine lv_aload_n hx hb dL_law_1092 rfl (lv_at hl 0 rfl) ?_
  refine lv_iload_n hx hb dL_law_1093 rfl (lv_at hl 3 rfl) ?_
  refine lv_iconst (v := 4) hx hb dL_law_1094 (by decide) ?_
  refine lv_iadd hx hb dL_law_1095 ?_
  refine va_sld hx hb hX hbl hbA hS v4 dL_law_1096 ?_
  refine lw_callR (ci := 6) (q0 := 0) (own := RL) (As := [.int (xs (nI i + (1 : Int32)).toNatClampNeg), .int (xs (nI i + (2 : Int32)).toNatClampNeg), .int (xs (nI i + (3 : Int32)).toNatClampNeg), .int (xs (nI i + (4 : Int32)).toNatClampNeg)]) (rest := [.long v]) ⟨hx, hb, hml, hown, hts⟩ (M7_still l D y a2 s7 t7 (xs (nI i + (1 : Int32)).toNatClampNeg) (xs (nI i + (2 : Int32)).toNatClampNeg) (xs (nI i + (3 : Int32)).toNatClampNeg) (xs (nI i + (4 : Int32)).toNatClampNeg) v f7) (cwV 4 hts (gA_V wl_910 wl_911 wl_912 wl_5 wl_913) rfl rfl rfl (by decide +kernel) ⟨Nat.le_of_ble_eq_true rfl, Nat.le_of_ble_eq_true rfl⟩) rfl rfl rfl hl.1 rfl (Nat.le_of_ble_eq_true rfl) dL_law_1097 ⟨Nat.le_refl _, Nat.le_refl _⟩ hK hP hD hS hA W7_len (fun H locs hP hD hS => ?_)
  refine W.lcmp hx hb dL_law_1100 ?_
  refine lv_if_eq (tgt := 1584) hx hb dL_law_1101 (by decide) (fun _ => ?_) (fun z => absurd (lg_eq.mpr rfl) z)
  exact K t6 t7 R1 H locs ls hP hD hS hl
theorem lw_c29 {p : Program} {l : Launch} {e : Env} {s : State} {m : MethodId} {below : List Frame} {meth : Method} {c : Code} {b L : Nat} {xs : Nat → Int32} {D : va_G} {y : Nat → ClassId} {a a2 : Nat → Nat} {i : Nat} {s6 : S6} {s7 : S7} (hL : L ≤ 3072) (C0 : lw_At p s m meth c b L xs) (hK : va_K D vwCl (dTy y) s) (R0 : Rel s6 s7) (hi : i + 6 ≤ L) (K : ∀ (t6 : S6) (t7 : S7), Rel t6 t7 → lw_go p l e s m below meth c b D y a a2 i 1584 t6 t7) : lw_go p l e s m below meth c b D y a a2 i 1106 s6 s7 := by
  obtain ⟨hx, hb, hr, hml, hown, hts0, hX, hbl, hlocks, hgv⟩ := C0
  have hts : ∀ w ∈ wsL_law, w.before #[Value.ref b] s = true := fun w h => hts0 w (wsL_law_in w h)
  have hA : ∀ q : Nat, s.heap.size ≤ q → (fun q : Nat => s.heap.size ≤ q) q := fun _ h => h
  have hbA : ¬ (fun q : Nat => s.heap.size ≤ q) b := Nat.not_le.mpr hbl
  have v1 : vp_in (nI i + (1 : Int32)) L := lw_ix hL hi (j := 1) (by omega) rfl
  obtain ⟨v, t6, t7, f6, f7, R1⟩ := s_coldest a a2 R0 (xs (nI i + (1 : Int32)).toNatClampNeg)
  intro H locs ls hP hD hS hl
  refine lv_aload_n hx hb dL_law_1106 rfl (lv_at hl 1 rfl) ?_
  refine lv_aload_n hx hb dL_law_1107 rfl (lv_at hl 0 rfl) ?_
  refine lv_iload_n hx hb dL_law_1108 rfl (lv_at hl 3 rfl) ?_
  refine lv_iconst (v := 1) hx hb dL_law_1109 (by decide) ?_
  refine lv_iadd hx hb dL_law_1110 ?_
  refine va_sld hx hb hX hbl hbA hS v1 dL_law_1111 ?_
  refine lw_callL (ci := 5) (q0 := 0) (own := RL) (As := [.int (xs (nI i + (1 : Int32)).toNatClampNeg)]) (rest := []) ⟨hx, hb, hml, hown, hts⟩ (M6_coldest l D y a s6 t6 (xs (nI i + (1 : Int32)).toNatClampNeg) v f6) (cwV 1 hts (gA_V wl_924 wl_925 wl_926 wl_2 wl_927) rfl rfl rfl (by decide +kernel) ⟨Nat.le_of_ble_eq_true rfl, Nat.le_of_ble_eq_true rfl⟩) rfl rfl rfl hl.1 rfl (Nat.le_of_ble_eq_true rfl) dL_law_1112 ⟨Nat.le_refl _, Nat.le_refl _⟩ hK hP hD hS hA W6_len (fun H locs hP hD hS => ?_)
  refine lv_aload_n hx hb dL_law_1115 rfl (lv_at hl 2 rfl) ?_
  refine lv_aload_n hx hb dL_law_1116 rfl (lv_at hl 0 rfl) ?_
  refine lv_iload_n hx hb dL_law_1117 rfl (lv_at hl 3 rfl) ?_
  refine lv_iconst (v := 1) hx hb dL_law_1118 (by decide) ?_
  refine lv_iadd hx hb dL_law_1119 ?_
  refine va_sld hx hb hX hbl hbA hS v1 dL_law_1120 ?_
  refine lw_callR (ci := 6) (q0 := 0) (own := RL) (As := [.int (xs (nI i + (1 : Int32)).toNatClampNeg)]) (rest := [.int v]) ⟨hx, hb, hml, hown, hts⟩ (M7_coldest l D y a2 s7 t7 (xs (nI i + (1 : Int32)).toNatClampNeg) v f7) (cwV 1 hts (gA_V wl_932 wl_933 wl_934 wl_5 wl_935) rfl rfl rfl (by decide +kernel) ⟨Nat.le_of_ble_eq_true rfl, Nat.le_of_ble_eq_true rfl⟩) rfl rfl rfl hl.1 rfl (Nat.le_of_ble_eq_true rfl) dL_law_1121 ⟨Nat.le_refl _, Nat.le_refl _⟩ hK hP hD hS hA W7_len (fun H locs hP hD hS => ?_)
  refine lv_icmp_eq (tgt := 1584) hx hb dL_law_1124 (by decide) (fun _ => ?_) (fun z => absurd rfl z)
  exact K t6 t7 R1 H locs ls hP hD hS hl
theorem lw_c30 {p : Program} {l : Launch} {e : Env} {s : State} {m : MethodId} {below : List Frame} {meth : Method} {c : Code} {b L : Nat} {xs : Nat → Int32} {D : va_G} {y : Nat → ClassId} {a a2 : Nat → Nat} {i : Nat} {s6 : S6} {s7 : S7} (hL : L ≤ 3072) (C0 : lw_At p s m meth c b L xs) (hK : va_K D vwCl (dTy y) s) (R0 : Rel s6 s7) (hi : i + 6 ≤ L) (K : ∀ (t6 : S6) (t7 : S7), Rel t6 t7 → lw_go p l e s m below meth c b D y a a2 i 1584 t6 t7) : lw_go p l e s m below meth c b D y a a2 i 1129 s6 s7 := by
  obtain ⟨hx, hb, hr, hml, hown, hts0, hX, hbl, hlocks, hgv⟩ := C0
  have hts : ∀ w ∈ wsL_law, w.before #[Value.ref b] s = true := fun w h => hts0 w (wsL_law_in w h)
  have hA : ∀ q : Nat, s.heap.size ≤ q → (fun q : Nat => s.heap.size ≤ q) q := fun _ h => h
  have hbA : ¬ (fun q : Nat => s.heap.size ≤ q) b := Nat.not_le.mpr hbl
  have v1 : vp_in (nI i + (1 : Int32)) L := lw_ix hL hi (j := 1) (by omega) rfl
  obtain ⟨v, t6, t7, f6, f7, R1⟩ := s_sum a a2 R0 (xs (nI i + (1 : Int32)).toNatClampNeg)
  intro H locs ls hP hD hS hl
  refine lv_aload_n hx hb dL_law_1129 rfl (lv_at hl 1 rfl) ?_
  refine lv_aload_n hx hb dL_law_1130 rfl (lv_at hl 0 rfl) ?_
  refine lv_iload_n hx hb dL_law_1131 rfl (lv_at hl 3 rfl) ?_
  refine lv_iconst (v := 1) hx hb dL_law_1132 (by decide) ?_
  refine lv_iadd hx hb dL_law_1133 ?_
  refine va_sld hx hb hX hbl hbA hS v1 dL_law_1134 ?_
  refine lw_callL (ci := 5) (q0 := 0) (own := RL) (As := [.int (xs (nI i + (1 : Int32)).toNatClampNeg)]) (rest := []) ⟨hx, hb, hml, hown, hts⟩ (M6_sum l D y a s6 t6 (xs (nI i + (1 : Int32)).toNatClampNeg) v f6) (cwV 1 hts (gA_V wl_936 wl_937 wl_938 wl_2 wl_939) rfl rfl rfl (by decide +kernel) ⟨Nat.le_of_ble_eq_true rfl, Nat.le_of_ble_eq_true rfl⟩) rfl rfl rfl hl.1 rfl (Nat.le_of_ble_eq_true rfl) dL_law_1135 ⟨Nat.le_refl _, Nat.le_refl _⟩ hK hP hD hS hA W6_len (fun H locs hP hD hS => ?_)
  refine lv_aload_n hx hb dL_law_1138 rfl (lv_at hl 2 rfl) ?_
  refine lv_aload_n hx hb dL_law_1139 rfl (lv_at hl 0 rfl) ?_
  refine lv_iload_n hx hb dL_law_1140 rfl (lv_at hl 3 rfl) ?_
  refine lv_iconst (v := 1) hx hb dL_law_1141 (by decide) ?_
  refine lv_iadd hx hb dL_law_1142 ?_
  refine va_sld hx hb hX hbl hbA hS v1 dL_law_1143 ?_
  refine lw_callR (ci := 6) (q0 := 0) (own := RL) (As := [.int (xs (nI i + (1 : Int32)).toNatClampNeg)]) (rest := [.int v]) ⟨hx, hb, hml, hown, hts⟩ (M7_sum l D y a2 s7 t7 (xs (nI i + (1 : Int32)).toNatClampNeg) v f7) (cwV 1 hts (gA_V wl_942 wl_943 wl_944 wl_5 wl_945) rfl rfl rfl (by decide +kernel) ⟨Nat.le_of_ble_eq_true rfl, Nat.le_of_ble_eq_true rfl⟩) rfl rfl rfl hl.1 rfl (Nat.le_of_ble_eq_true rfl) dL_law_1144 ⟨Nat.le_refl _, Nat.le_refl _⟩ hK hP hD hS hA W7_len (fun H locs hP hD hS => ?_)
  refine lv_icmp_eq (tgt := 1584) hx hb dL_law_1147 (by decide) (fun _ => ?_) (fun z => absurd rfl z)
  exact K t6 t7 R1 H locs ls hP hD hS hl
theorem lw_c31 {p : Program} {l : Launch} {e : Env} {s : State} {m : MethodId} {below : List Frame} {meth : Method} {c : Code} {b L : Nat} {xs : Nat → Int32} {D : va_G} {y : Nat → ClassId} {a a2 : Nat → Nat} {i : Nat} {s6 : S6} {s7 : S7} (hL : L ≤ 3072) (C0 : lw_At p s m meth c b L xs) (hK : va_K D vwCl (dTy y) s) (R0 : Rel s6 s7) (hi : i + 6 ≤ L) (K : ∀ (t6 : S6) (t7 : S7), Rel t6 t7 → lw_go p l e s m below meth c b D y a a2 i 1584 t6 t7) : lw_go p l e s m below meth c b D y a a2 i 1152 s6 s7 := by
  obtain ⟨hx, hb, hr, hml, hown, hts0, hX, hbl, hlocks, hgv⟩ := C0
  have hts : ∀ w ∈ wsL_law, w.before #[Value.ref b] s = true := fun w h => hts0 w (wsL_law_in w h)
  have hA : ∀ q : Nat, s.heap.size ≤ q → (fun q : Nat => s.heap.size ≤ q) q := fun _ h => h
  have hbA : ¬ (fun q : Nat => s.heap.size ≤ q) b := Nat.not_le.mpr hbl
  have v1 : vp_in (nI i + (1 : Int32)) L := lw_ix hL hi (j := 1) (by omega) rfl
  have v2 : vp_in (nI i + (2 : Int32)) L := lw_ix hL hi (j := 2) (by omega) rfl
  obtain ⟨v, t6, t7, f6, f7, R1⟩ := s_nearest a a2 R0 (xs (nI i + (1 : Int32)).toNatClampNeg) (xs (nI i + (2 : Int32)).toNatClampNeg)
  intro H locs ls hP hD hS hl
  refine lv_aload_n hx hb dL_law_1152 rfl (lv_at hl 1 rfl) ?_
  refine lv_aload_n hx hb dL_law_1153 rfl (lv_at hl 0 rfl) ?_
  refine lv_iload_n hx hb dL_law_1154 rfl (lv_at hl 3 rfl) ?_
  refine lv_iconst (v := 1) hx hb dL_law_1155 (by decide) ?_
  refine lv_iadd hx hb dL_law_1156 ?_
  refine va_sld hx hb hX hbl hbA hS v1 dL_law_1157 ?_
  refine lv_aload_n hx hb dL_law_1158 rfl (lv_at hl 0 rfl) ?_
  refine lv_iload_n hx hb dL_law_1159 rfl (lv_at hl 3 rfl) ?_
  refine lv_iconst (v := 2) hx hb dL_law_1160 (by decide) ?_
  refine lv_iadd hx hb dL_law_1161 ?_
  refine va_sld hx hb hX hbl hbA hS v2 dL_law_1162 ?_
  refine lw_callL (ci := 5) (q0 := 0) (own := RL) (As := [.int (xs (nI i + (1 : Int32)).toNatClampNeg), .int (xs (nI i + (2 : Int32)).toNatClampNeg)]) (rest := []) ⟨hx, hb, hml, hown, hts⟩ (M6_nearest l D y a s6 t6 (xs (nI i + (1 : Int32)).toNatClampNeg) (xs (nI i + (2 : Int32)).toNatClampNeg) v f6) (cwV 2 hts (gA_V wl_947 wl_948 wl_949 wl_2 wl_950) rfl rfl rfl (by decide +kernel) ⟨Nat.le_of_ble_eq_true rfl, Nat.le_of_ble_eq_true rfl⟩) rfl rfl rfl hl.1 rfl (Nat.le_of_ble_eq_true rfl) dL_law_1163 ⟨Nat.le_refl _, Nat.le_refl _⟩ hK hP hD hS hA W6_len (fun H locs hP hD hS => ?_)
  refine lv_aload_n hx hb dL_law_1166 rfl (lv_at hl 2 rfl) ?_
  refine lv_aload_n hx hb dL_law_1167 rfl (lv_at hl 0 rfl) ?_
  refine lv_iload_n hx hb dL_law_1168 rfl (lv_at hl 3 rfl) ?_
  refine lv_iconst (v := 1) hx hb dL_law_1169 (by decide) ?_
  refine lv_iadd hx hb dL_law_1170 ?_
  refine va_sld hx hb hX hbl hbA hS v1 dL_law_1171 ?_
  refine lv_aload_n hx hb dL_law_1172 rfl (lv_at hl 0 rfl) ?_
  refine lv_iload_n hx hb dL_law_1173 rfl (lv_at hl 3 rfl) ?_
  refine lv_iconst (v := 2) hx hb dL_law_1174 (by decide) ?_
  refine lv_iadd hx hb dL_law_1175 ?_
  refine va_sld hx hb hX hbl hbA hS v2 dL_law_1176 ?_
  refine lw_callR (ci := 6) (q0 := 0) (own := RL) (As := [.int (xs (nI i + (1 : Int32)).toNatClampNeg), .int (xs (nI i + (2 : Int32)).toNatClampNeg)]) (rest := [.int v]) ⟨hx, hb, hml, hown, hts⟩ (M7_nearest l D y a2 s7 t7 (xs (nI i + (1 : Int32)).toNatClampNeg) (xs (nI i + (2 : Int32)).toNatClampNeg) v f7) (cwV 2 hts (gA_V wl_957 wl_958 wl_959 wl_5 wl_960) rfl rfl rfl (by decide +kernel) ⟨Nat.le_of_ble_eq_true rfl, Nat.le_of_ble_eq_true rfl⟩) rfl rfl rfl hl.1 rfl (Nat.le_of_ble_eq_true rfl) dL_law_1177 ⟨Nat.le_refl _, Nat.le_refl _⟩ hK hP hD hS hA W7_len (fun H locs hP hD hS => ?_)
  refine lv_icmp_eq (tgt := 1584) hx hb dL_law_1180 (by decide) (fun _ => ?_) (fun z => absurd rfl z)
  exact K t6 t7 R1 H locs ls hP hD hS hl
theorem lw_c32 {p : Program} {l : Launch} {e : Env} {s : State} {m : MethodId} {below : List Frame} {meth : Method} {c : Code} {b L : Nat} {xs : Nat → Int32} {D : va_G} {y : Nat → ClassId} {a a2 : Nat → Nat} {i : Nat} {s6 : S6} {s7 : S7} (hL : L ≤ 3072) (C0 : lw_At p s m meth c b L xs) (hK : va_K D vwCl (dTy y) s) (R0 : Rel s6 s7) (hi : i + 6 ≤ L) (K : ∀ (t6 : S6) (t7 : S7), Rel t6 t7 → lw_go p l e s m below meth c b D y a a2 i 1584 t6 t7) : lw_go p l e s m below meth c b D y a a2 i 1185 s6 s7 := by
  obtain ⟨hx, hb, hr, hml, hown, hts0, hX, hbl, hlocks, hgv⟩ := C0
  have hts : ∀ w ∈ wsL_law, w.before #[Value.ref b] s = true := fun w h => hts0 w (wsL_law_in w h)
  have hA : ∀ q : Nat, s.heap.size ≤ q → (fun q : Nat => s.heap.size ≤ q) q := fun _ h => h
  have hbA : ¬ (fun q : Nat => s.heap.size ≤ q) b := Nat.not_le.mpr hbl
  have v1 : vp_in (nI i + (1 : Int32)) L := lw_ix hL hi (j := 1) (by omega) rfl
  obtain ⟨v, t6, t7, f6, f7, R1⟩ := s_kinds a a2 R0 (xs (nI i + (1 : Int32)).toNatClampNeg)
  intro H locs ls hP hD hS hl
  refine lv_aload_n hx hb dL_law_1185 rfl (lv_at hl 1 rfl) ?_
  refine lv_aload_n hx hb dL_law_1186 rfl (lv_at hl 0 rfl) ?_
  refine lv_iload_n hx hb dL_law_1187 rfl (lv_at hl 3 rfl) ?_
  refine lv_iconst (v := 1) hx hb dL_law_1188 (by decide) ?_
  refine lv_iadd hx hb dL_law_1189 ?_
  refine va_sld hx hb hX hbl hbA hS v1 dL_law_1190 ?_
  refine lw_callL (ci := 5) (q0 := 0) (own := RL) (As := [.int (xs (nI i + (1 : Int32)).toNatClampNeg)]) (rest := []) ⟨hx, hb, hml, hown, hts⟩ (M6_kinds l D y a s6 t6 (xs (nI i + (1 : Int32)).toNatClampNeg) v f6) (cwV 1 hts (gA_V wl_964 wl_965 wl_966 wl_2 wl_967) rfl rfl rfl (by decide +kernel) ⟨Nat.le_of_ble_eq_true rfl, Nat.le_of_ble_eq_true rfl⟩) rfl rfl rfl hl.1 rfl (Nat.le_of_ble_eq_true rfl) dL_law_1191 ⟨Nat.le_refl _, Nat.le_refl _⟩ hK hP hD hS hA W6_len (fun H locs hP hD hS => ?_)
  refine lv_aload_n hx hb dL_law_1194 rfl (lv_at hl 2 rfl) ?_
  refine lv_aload_n hx hb dL_law_1195 rfl (lv_at hl 0 rfl) ?_
  refine lv_iload_n hx hb dL_law_1196 rfl (lv_at hl 3 rfl) ?_
  refine lv_iconst (v := 1) hx hb dL_law_1197 (by decide) ?_
  refine lv_iadd hx hb dL_law_1198 ?_
  refine va_sld hx hb hX hbl hbA hS v1 dL_law_1199 ?_
  refine lw_callR (ci := 6) (q0 := 0) (own := RL) (As := [.int (xs (nI i + (1 : Int32)).toNatClampNeg)]) (rest := [.int v]) ⟨hx, hb, hml, hown, hts⟩ (M7_kinds l D y a2 s7 t7 (xs (nI i + (1 : Int32)).toNatClampNeg) v f7) (cwV 1 hts (gA_V wl_968 wl_969 wl_970 wl_5 wl_971) rfl rfl rfl (by decide +kernel) ⟨Nat.le_of_ble_eq_true rfl, Nat.le_of_ble_eq_true rfl⟩) rfl rfl rfl hl.1 rfl (Nat.le_of_ble_eq_true rfl) dL_law_1200 ⟨Nat.le_refl _, Nat.le_refl _⟩ hK hP hD hS hA W7_len (fun H locs hP hD hS => ?_)
  refine lv_icmp_eq (tgt := 1584) hx hb dL_law_1203 (by decide) (fun _ => ?_) (fun z => absurd rfl z)
  exact K t6 t7 R1 H locs ls hP hD hS hl
theorem lw_c33 {p : Program} {l : Launch} {e : Env} {s : State} {m : MethodId} {below : List Frame} {meth : Method} {c : Code} {b L : Nat} {xs : Nat → Int32} {D : va_G} {y : Nat → ClassId} {a a2 : Nat → Nat} {i : Nat} {s6 : S6} {s7 : S7} (hL : L ≤ 3072) (C0 : lw_At p s m meth c b L xs) (hK : va_K D vwCl (dTy y) s) (R0 : Rel s6 s7) (hi : i + 6 ≤ L) (K : ∀ (t6 : S6) (t7 : S7), Rel t6 t7 → lw_go p l e s m below meth c b D y a a2 i 1584 t6 t7) : lw_go p l e s m below meth c b D y a a2 i 1208 s6 s7 := by
  obtain ⟨hx, hb, hr, hml, hown, hts0, hX, hbl, hlocks, hgv⟩ := C0
  have hts : ∀ w ∈ wsL_law, w.before #[Value.ref b] s = true := fun w h => hts0 w (wsL_law_in w h)
  have hA : ∀ q : Nat, s.heap.size ≤ q → (fun q : Nat => s.heap.size ≤ q) q := fun _ h => h
  have hbA : ¬ (fun q : Nat => s.heap.size ≤ q) b := Nat.not_le.mpr hbl
  have v1 : vp_in (nI i + (1 : Int32)) L := lw_ix hL hi (j := 1) (by omega) rfl
  have v2 : vp_in (nI i + (2 : Int32)) L := lw_ix hL hi (j := 2) (by omega) rfl
  have v3 : vp_in (nI i + (3 : Int32)) L := lw_ix hL hi (j := 3) (by omega) rfl
  obtain ⟨v, t6, t7, f6, f7, R1⟩ := s_pegs a a2 R0 (xs (nI i + (1 : Int32)).toNatClampNeg) (xs (nI i + (2 : Int32)).toNatClampNeg) (xs (nI i + (3 : Int32)).toNatClampNeg)
  intro H locs ls hP hD hS hl
  refine lv_aload_n hx hb dL_law_1208 rfl (lv_at hl 1 rfl) ?_
  refine lv_aload_n hx hb dL_law_1209 rfl (lv_at hl 0 rfl) ?_
  refine lv_iload_n hx hb dL_law_1210 rfl (lv_at hl 3 rfl) ?_
  refine lv_iconst (v := 1) hx hb dL_law_1211 (by decide) ?_
  refine lv_iadd hx hb dL_law_1212 ?_
  refine va_sld hx hb hX hbl hbA hS v1 dL_law_1213 ?_
  refine lv_aload_n hx hb dL_law_1214 rfl (lv_at hl 0 rfl) ?_
  refine lv_iload_n hx hb dL_law_1215 rfl (lv_at hl 3 rfl) ?_
  refine lv_iconst (v := 2) hx hb dL_law_1216 (by decide) ?_
  refine lv_iadd hx hb dL_law_1217 ?_
  refine va_sld hx hb hX hbl hbA hS v2 dL_law_1218 ?_
  refine lv_aload_n hx hb dL_law_1219 rfl (lv_at hl 0 rfl) ?_
  refine lv_iload_n hx hb dL_law_1220 rfl (lv_at hl 3 rfl) ?_
  refine lv_iconst (v := 3) hx hb dL_law_1221 (by decide) ?_
  refine lv_iadd hx hb dL_law_1222 ?_
  refine va_sld hx hb hX hbl hbA hS v3 dL_law_1223 ?_
  refine lw_callL (ci := 5) (q0 := 0) (own := RL) (As := [.int (xs (nI i + (1 : Int32)).toNatClampNeg), .int (xs (nI i + (2 : Int32)).toNatClampNeg), .int (xs (nI i + (3 : Int32)).toNatClampNeg)]) (rest := []) ⟨hx, hb, hml, hown, hts⟩ (M6_pegs l D y a s6 t6 (xs (nI i + (1 : Int32)).toNatClampNeg) (xs (nI i + (2 : Int32)).toNatClampNeg) (xs (nI i + (3 : Int32)).toNatClampNeg) v f6) (cwV 3 hts (gA_V wl_972 wl_973 wl_974 wl_2 wl_975) rfl rfl rfl (by decide +kernel) ⟨Nat.le_of_ble_eq_true rfl, Nat.le_of_ble_eq_true rfl⟩) rfl rfl rfl hl.1 rfl (Nat.le_of_ble_eq_true rfl) dL_law_1224 ⟨Nat.le_refl _, Nat.le_refl _⟩ hK hP hD hS hA W6_len (fun H locs hP hD hS => ?_)
  refine lv_aload_n hx hb dL_law_1227 rfl (lv_at hl 2 rfl) ?_
  refine lv_aload_n hx hb dL_law_1228 rfl (lv_at hl 0 rfl) ?_
  refine lv_iload_n hx hb dL_law_1229 rfl (lv_at hl 3 rfl) ?_
  refine lv_iconst (v := 1) hx hb dL_law_1230 (by decide) ?_
  refine lv_iadd hx hb dL_law_1231 ?_
  refine va_sld hx hb hX hbl hbA hS v1 dL_law_1232 ?_
  refine lv_aload_n hx hb dL_law_1233 rfl (lv_at hl 0 rfl) ?_
  refine lv_iload_n hx hb dL_law_1234 rfl (lv_at hl 3 rfl) ?_
  refine lv_iconst (v := 2) hx hb dL_law_1235 (by decide) ?_
  refine lv_iadd hx hb dL_law_1236 ?_
  refine va_sld hx hb hX hbl hbA hS v2 dL_law_1237 ?_
  refine lv_aload_n hx hb dL_law_1238 rfl (lv_at hl 0 rfl) ?_
  refine lv_iload_n hx hb dL_law_1239 rfl (lv_at hl 3 rfl) ?_
  refine lv_iconst (v := 3) hx hb dL_law_1240 (by decide) ?_
  refine lv_iadd hx hb dL_law_1241 ?_
  refine va_sld hx hb hX hbl hbA hS v3 dL_law_1242 ?_
  refine lw_callR (ci := 6) (q0 := 0) (own := RL) (As := [.int (xs (nI i + (1 : Int32)).toNatClampNeg), .int (xs (nI i + (2 : Int32)).toNatClampNeg), .int (xs (nI i + (3 : Int32)).toNatClampNeg)]) (rest := [.int v]) ⟨hx, hb, hml, hown, hts⟩ (M7_pegs l D y a2 s7 t7 (xs (nI i + (1 : Int32)).toNatClampNeg) (xs (nI i + (2 : Int32)).toNatClampNeg) (xs (nI i + (3 : Int32)).toNatClampNeg) v f7) (cwV 3 hts (gA_V wl_983 wl_984 wl_985 wl_5 wl_986) rfl rfl rfl (by decide +kernel) ⟨Nat.le_of_ble_eq_true rfl, Nat.le_of_ble_eq_true rfl⟩) rfl rfl rfl hl.1 rfl (Nat.le_of_ble_eq_true rfl) dL_law_1243 ⟨Nat.le_refl _, Nat.le_refl _⟩ hK hP hD hS hA W7_len (fun H locs hP hD hS => ?_)
  refine lv_icmp_eq (tgt := 1584) hx hb dL_law_1246 (by decide) (fun _ => ?_) (fun z => absurd rfl z)
  exact K t6 t7 R1 H locs ls hP hD hS hl
theorem lw_c34 {p : Program} {l : Launch} {e : Env} {s : State} {m : MethodId} {below : List Frame} {meth : Method} {c : Code} {b L : Nat} {xs : Nat → Int32} {D : va_G} {y : Nat → ClassId} {a a2 : Nat → Nat} {i : Nat} {s6 : S6} {s7 : S7} (hL : L ≤ 3072) (C0 : lw_At p s m meth c b L xs) (hK : va_K D vwCl (dTy y) s) (R0 : Rel s6 s7) (hi : i + 6 ≤ L) (K : ∀ (t6 : S6) (t7 : S7), Rel t6 t7 → lw_go p l e s m below meth c b D y a a2 i 1584 t6 t7) : lw_go p l e s m below meth c b D y a a2 i 1251 s6 s7 := by
  obtain ⟨hx, hb, hr, hml, hown, hts0, hX, hbl, hlocks, hgv⟩ := C0
  have hts : ∀ w ∈ wsL_law, w.before #[Value.ref b] s = true := fun w h => hts0 w (wsL_law_in w h)
  have hA : ∀ q : Nat, s.heap.size ≤ q → (fun q : Nat => s.heap.size ≤ q) q := fun _ h => h
  have hbA : ¬ (fun q : Nat => s.heap.size ≤ q) b := Nat.not_le.mpr hbl
  have v1 : vp_in (nI i + (1 : Int32)) L := lw_ix hL hi (j := 1) (by omega) rfl
  have v2 : vp_in (nI i + (2 : Int32)) L := lw_ix hL hi (j := 2) (by omega) rfl
  have v3 : vp_in (nI i + (3 : Int32)) L := lw_ix hL hi (j := 3) (by omega) rfl
  have v4 : vp_in (nI i + (4 : Int32)) L := lw_ix hL hi (j := 4) (by omega) rfl
  obtain ⟨v, t6, t7, f6, f7, R1⟩ := s_hangs a a2 R0 (xs (nI i + (1 : Int32)).toNatClampNeg) (xs (nI i + (2 : Int32)).toNatClampNeg) (xs (nI i + (3 : Int32)).toNatClampNeg) (xs (nI i + (4 : Int32)).toNatClampNeg)
  intro H locs ls hP hD hS hl
  refine lv_aload_n hx hb dL_law_1251 rfl (lv_at hl 1 rfl) ?_
  refine lv_aload_n hx hb dL_law_1252 rfl (lv_at hl 0 rfl) ?_
  refine lv_iload_n hx hb dL_law_1253 rfl (lv_at hl 3 rfl) ?_
  refine lv_iconst (v := 1) hx hb dL_law_1254 (by decide) ?_
  refine lv_iadd hx hb dL_law_1255 ?_
  refine va_sld hx hb hX hbl hbA hS v1 dL_law_1256 ?_
  refine lv_aload_n hx hb dL_law_1257 rfl (lv_at hl 0 rfl) ?_
  refine lv_iload_n hx hb dL_law_1258 rfl (lv_at hl 3 rfl) ?_
  refine lv_iconst (v := 2) hx hb dL_law_1259 (by decide) ?_
  refine lv_iadd hx hb dL_law_1260 ?_
  refine va_sld hx hb hX hbl hbA hS v2 dL_law_1261 ?_
  refine lv_aload_n hx hb dL_law_1262 rfl (lv_at hl 0 rfl) ?_
  refine lv_iload_n hx hb dL_law_1263 rfl (lv_at hl 3 rfl) ?_
  refine lv_iconst (v := 3) hx hb dL_law_1264 (by decide) ?_
  refine lv_iadd hx hb dL_law_1265 ?_
  refine va_sld hx hb hX hbl hbA hS v3 dL_law_1266 ?_
  refine lv_aload_n hx hb dL_law_1267 rfl (lv_at hl 0 rfl) ?_
  refine lv_iload_n hx hb dL_law_1268 rfl (lv_at hl 3 rfl) ?_
  refine lv_iconst (v := 4) hx hb dL_law_1269 (by decide) ?_
  refine lv_iadd hx hb dL_law_1270 ?_
  refine va_sld hx hb hX hbl hbA hS v4 dL_law_1271 ?_
  refine lw_callL (ci := 5) (q0 := 0) (own := RL) (As := [.int (xs (nI i + (1 : Int32)).toNatClampNeg), .int (xs (nI i + (2 : Int32)).toNatClampNeg), .int (xs (nI i + (3 : Int32)).toNatClampNeg), .int (xs (nI i + (4 : Int32)).toNatClampNeg)]) (rest := []) ⟨hx, hb, hml, hown, hts⟩ (M6_hangs l D y a s6 t6 (xs (nI i + (1 : Int32)).toNatClampNeg) (xs (nI i + (2 : Int32)).toNatClampNeg) (xs (nI i + (3 : Int32)).toNatClampNeg) (xs (nI i + (4 : Int32)).toNatClampNeg) v f6) (cwV 4 hts (gA_V wl_990 wl_991 wl_992 wl_2 wl_993) rfl rfl rfl (by decide +kernel) ⟨Nat.le_of_ble_eq_true rfl, Nat.le_of_ble_eq_true rfl⟩) rfl rfl rfl hl.1 rfl (Nat.le_of_ble_eq_true rfl) dL_law_1272 ⟨Nat.le_refl _, Nat.le_refl _⟩ hK hP hD hS hA W6_len (fun H locs hP hD hS => ?_)
  refine lv_aload_n hx hb dL_law_1275 rfl (lv_at hl 2 rfl) ?_
  refine lv_aload_n hx hb dL_law_1276 rfl (lv_at hl 0 rfl) ?_
  refine lv_iload_n hx hb dL_law_1277 rfl (lv_at hl 3 rfl) ?_
  refine lv_iconst (v := 1) hx hb dL_law_1278 (by decide) ?_
  refine lv_iadd hx hb dL_law_1279 ?_
  refine va_sld hx hb hX hbl hbA hS v1 dL_law_1280 ?_
  refine lv_aload_n hx hb dL_law_1281 rfl (lv_at hl 0 rfl) ?_
  refine lv_iload_n hx hb dL_law_1282 rfl (lv_at hl 3 rfl) ?_
  refine lv_iconst (v := 2) hx hb dL_law_1283 (by decide) ?_
  refine lv_iadd hx hb dL_law_1284 ?_
  refine va_sld hx hb hX hbl hbA hS v2 dL_law_1285 ?_
  refine lv_aload_n hx hb dL_law_1286 rfl (lv_at hl 0 rfl) ?_
  refine lv_iload_n hx hb dL_law_1287 rfl (lv_at hl 3 rfl) ?_
  refine lv_iconst (v := 3) hx hb dL_law_1288 (by decide) ?_
  refine lv_iadd hx hb dL_law_1289 ?_
  refine va_sld hx hb hX hbl hbA hS v3 dL_law_1290 ?_
  refine lv_aload_n hx hb dL_law_1291 rfl (lv_at hl 0 rfl) ?_
  refine lv_iload_n hx hb dL_law_1292 rfl (lv_at hl 3 rfl) ?_
  refine lv_iconst (v := 4) hx hb dL_law_1293 (by decide) ?_
  refine lv_iadd hx hb dL_law_1294 ?_
  refine va_sld hx hb hX hbl hbA hS v4 dL_law_1295 ?_
  refine lw_callR (ci := 6) (q0 := 0) (own := RL) (As := [.int (xs (nI i + (1 : Int32)).toNatClampNeg), .int (xs (nI i + (2 : Int32)).toNatClampNeg), .int (xs (nI i + (3 : Int32)).toNatClampNeg), .int (xs (nI i + (4 : Int32)).toNatClampNeg)]) (rest := [.int v]) ⟨hx, hb, hml, hown, hts⟩ (M7_hangs l D y a2 s7 t7 (xs (nI i + (1 : Int32)).toNatClampNeg) (xs (nI i + (2 : Int32)).toNatClampNeg) (xs (nI i + (3 : Int32)).toNatClampNeg) (xs (nI i + (4 : Int32)).toNatClampNeg) v f7) (cwV 4 hts (gA_V wl_1010 wl_1011 wl_1012 wl_5 wl_1013) rfl rfl rfl (by decide +kernel) ⟨Nat.le_of_ble_eq_true rfl, Nat.le_of_ble_eq_true rfl⟩) rfl rfl rfl hl.1 rfl (Nat.le_of_ble_eq_true rfl) dL_law_1296 ⟨Nat.le_refl _, Nat.le_refl _⟩ hK hP hD hS hA W7_len (fun H locs hP hD hS => ?_)
  refine lv_icmp_eq (tgt := 1584) hx hb dL_law_1299 (by decide) (fun _ => ?_) (fun z => absurd rfl z)
  exact K t6 t7 R1 H locs ls hP hD hS hl
theorem lw_c35 {p : Program} {l : Launch} {e : Env} {s : State} {m : MethodId} {below : List Frame} {meth : Method} {c : Code} {b L : Nat} {xs : Nat → Int32} {D : va_G} {y : Nat → ClassId} {a a2 : Nat → Nat} {i : Nat} {s6 : S6} {s7 : S7} (hL : L ≤ 3072) (C0 : lw_At p s m meth c b L xs) (hK : va_K D vwCl (dTy y) s) (R0 : Rel s6 s7) (hi : i + 6 ≤ L) (K : ∀ (t6 : S6) (t7 : S7), Rel t6 t7 → lw_go p l e s m below meth c b D y a a2 i 1584 t6 t7) : lw_go p l e s m below meth c b D y a a2 i 1304 s6 s7 := by
  obtain ⟨hx, hb, hr, hml, hown, hts0, hX, hbl, hlocks, hgv⟩ := C0
  have hts : ∀ w ∈ wsL_law, w.before #[Value.ref b] s = true := fun w h => hts0 w (wsL_law_in w h)
  have hA : ∀ q : Nat, s.heap.size ≤ q → (fun q : Nat => s.heap.size ≤ q) q := fun _ h => h
  have hbA : ¬ (fun q : Nat => s.heap.size ≤ q) b := Nat.not_le.mpr hbl
  have v1 : vp_in (nI i + (1 : Int32)) L := lw_ix hL hi (j := 1) (by omega) rfl
  have v2 : vp_in (nI i + (2 : Int32)) L := lw_ix hL hi (j := 2) (by omega) rfl
  obtain ⟨v, t6, t7, f6, f7, R1⟩ := s_coat a a2 R0 (xs (nI i + (1 : Int32)).toNatClampNeg) (xs (nI i + (2 : Int32)).toNatClampNeg)
  intro H locs ls hP hD hS hl
  refine lv_aload_n hx hb dL_law_1304 rfl (lv_at hl 1 rfl) ?_
  refine lv_aload_n hx hb dL_law_1305 rfl (lv_at hl 0 rfl) ?_
  refine lv_iload_n hx hb dL_law_1306 rfl (lv_at hl 3 rfl) ?_
  refine lv_iconst (v := 1) hx hb dL_law_1307 (by decide) ?_
  refine lv_iadd hx hb dL_law_1308 ?_
  refine va_sld hx hb hX hbl hbA hS v1 dL_law_1309 ?_
  refine lv_aload_n hx hb dL_law_1310 rfl (lv_at hl 0 rfl) ?_
  refine lv_iload_n hx hb dL_law_1311 rfl (lv_at hl 3 rfl) ?_
  refine lv_iconst (v := 2) hx hb dL_law_1312 (by decide) ?_
  refine lv_iadd hx hb dL_law_1313 ?_
  refine va_sld hx hb hX hbl hbA hS v2 dL_law_1314 ?_
  refine lw_callL (ci := 5) (q0 := 0) (own := RL) (As := [.int (xs (nI i + (1 : Int32)).toNatClampNeg), .int (xs (nI i + (2 : Int32)).toNatClampNeg)]) (rest := []) ⟨hx, hb, hml, hown, hts⟩ (M6_coat l D y a s6 t6 (xs (nI i + (1 : Int32)).toNatClampNeg) (xs (nI i + (2 : Int32)).toNatClampNeg) v f6) (cwV 2 hts (gA_V wl_1022 wl_1023 wl_1024 wl_2 wl_1025) rfl rfl rfl (by decide +kernel) ⟨Nat.le_of_ble_eq_true rfl, Nat.le_of_ble_eq_true rfl⟩) rfl rfl rfl hl.1 rfl (Nat.le_of_ble_eq_true rfl) dL_law_1315 ⟨Nat.le_refl _, Nat.le_refl _⟩ hK hP hD hS hA W6_len (fun H locs hP hD hS => ?_)
  refine lv_aload_n hx hb dL_law_1318 rfl (lv_at hl 2 rfl) ?_
  refine lv_aload_n hx hb dL_law_1319 rfl (lv_at hl 0 rfl) ?_
  refine lv_iload_n hx hb dL_law_1320 rfl (lv_at hl 3 rfl) ?_
  refine lv_iconst (v := 1) hx hb dL_law_1321 (by decide) ?_
  refine lv_iadd hx hb dL_law_1322 ?_
  refine va_sld hx hb hX hbl hbA hS v1 dL_law_1323 ?_
  refine lv_aload_n hx hb dL_law_1324 rfl (lv_at hl 0 rfl) ?_
  refine lv_iload_n hx hb dL_law_1325 rfl (lv_at hl 3 rfl) ?_
  refine lv_iconst (v := 2) hx hb dL_law_1326 (by decide) ?_
  refine lv_iadd hx hb dL_law_1327 ?_
  refine va_sld hx hb hX hbl hbA hS v2 dL_law_1328 ?_
  refine lw_callR (ci := 6) (q0 := 0) (own := RL) (As := [.int (xs (nI i + (1 : Int32)).toNatClampNeg), .int (xs (nI i + (2 : Int32)).toNatClampNeg)]) (rest := [.int v]) ⟨hx, hb, hml, hown, hts⟩ (M7_coat l D y a2 s7 t7 (xs (nI i + (1 : Int32)).toNatClampNeg) (xs (nI i + (2 : Int32)).toNatClampNeg) v f7) (cwV 2 hts (gA_V wl_1032 wl_1033 wl_1034 wl_5 wl_1035) rfl rfl rfl (by decide +kernel) ⟨Nat.le_of_ble_eq_true rfl, Nat.le_of_ble_eq_true rfl⟩) rfl rfl rfl hl.1 rfl (Nat.le_of_ble_eq_true rfl) dL_law_1329 ⟨Nat.le_refl _, Nat.le_refl _⟩ hK hP hD hS hA W7_len (fun H locs hP hD hS => ?_)
  refine lv_icmp_eq (tgt := 1584) hx hb dL_law_1332 (by decide) (fun _ => ?_) (fun z => absurd rfl z)
  exact K t6 t7 R1 H locs ls hP hD hS hl
theorem lw_c36 {p : Program} {l : Launch} {e : Env} {s : State} {m : MethodId} {below : List Frame} {meth : Method} {c : Code} {b L : Nat} {xs : Nat → Int32} {D : va_G} {y : Nat → ClassId} {a a2 : Nat → Nat} {i : Nat} {s6 : S6} {s7 : S7} (hL : L ≤ 3072) (C0 : lw_At p s m meth c b L xs) (hK : va_K D vwCl (dTy y) s) (R0 : Rel s6 s7) (hi : i + 6 ≤ L) (K : ∀ (t6 : S6) (t7 : S7), Rel t6 t7 → lw_go p l e s m below meth c b D y a a2 i 1584 t6 t7) : lw_go p l e s m below meth c b D y a a2 i 1337 s6 s7 := by
  obtain ⟨hx, hb, hr, hml, hown, hts0, hX, hbl, hlocks, hgv⟩ := C0
  have hts : ∀ w ∈ wsL_law, w.before #[Value.ref b] s = true := fun w h => hts0 w (wsL_law_in w h)
  have hA : ∀ q : Nat, s.heap.size ≤ q → (fun q : Nat => s.heap.size ≤ q) q := fun _ h => h
  have hbA : ¬ (fun q : Nat => s.heap.size ≤ q) b := Nat.not_le.mpr hbl
  have v1 : vp_in (nI i + (1 : Int32)) L := lw_ix hL hi (j := 1) (by omega) rfl
  have v2 : vp_in (nI i + (2 : Int32)) L := lw_ix hL hi (j := 2) (by omega) rfl
  have v3 : vp_in (nI i + (3 : Int32)) L := lw_ix hL hi (j := 3) (by omega) rfl
  obtain ⟨v, t6, t7, f6, f7, R1⟩ := s_wears a a2 R0 (xs (nI i + (1 : Int32)).toNatClampNeg) (xs (nI i + (2 : Int32)).toNatClampNeg) (xs (nI i + (3 : Int32)).toNatClampNeg)
  intro H locs ls hP hD hS hl
  refine lv_aload_n hx hb dL_law_1337 rfl (lv_at hl 1 rfl) ?_
  refine lv_aload_n hx hb dL_law_1338 rfl (lv_at hl 0 rfl) ?_
  refine lv_iload_n hx hb dL_law_1339 rfl (lv_at hl 3 rfl) ?_
  refine lv_iconst (v := 1) hx hb dL_law_1340 (by decide) ?_
  refine lv_iadd hx hb dL_law_1341 ?_
  refine va_sld hx hb hX hbl hbA hS v1 dL_law_1342 ?_
  refine lv_aload_n hx hb dL_law_1343 rfl (lv_at hl 0 rfl) ?_
  refine lv_iload_n hx hb dL_law_1344 rfl (lv_at hl 3 rfl) ?_
  refine lv_iconst (v := 2) hx hb dL_law_1345 (by decide) ?_
  refine lv_iadd hx hb dL_law_1346 ?_
  refine va_sld hx hb hX hbl hbA hS v2 dL_law_1347 ?_
  refine lv_aload_n hx hb dL_law_1348 rfl (lv_at hl 0 rfl) ?_
  refine lv_iload_n hx hb dL_law_1349 rfl (lv_at hl 3 rfl) ?_
  refine lv_iconst (v := 3) hx hb dL_law_1350 (by decide) ?_
  refine lv_iadd hx hb dL_law_1351 ?_
  refine va_sld hx hb hX hbl hbA hS v3 dL_law_1352 ?_
  refine lw_callL (ci := 5) (q0 := 0) (own := RL) (As := [.int (xs (nI i + (1 : Int32)).toNatClampNeg), .int (xs (nI i + (2 : Int32)).toNatClampNeg), .int (xs (nI i + (3 : Int32)).toNatClampNeg)]) (rest := []) ⟨hx, hb, hml, hown, hts⟩ (M6_wears l D y a s6 t6 (xs (nI i + (1 : Int32)).toNatClampNeg) (xs (nI i + (2 : Int32)).toNatClampNeg) (xs (nI i + (3 : Int32)).toNatClampNeg) v f6) (cwV 3 hts (gA_V wl_1036 wl_1037 wl_1038 wl_2 wl_1039) rfl rfl rfl (by decide +kernel) ⟨Nat.le_of_ble_eq_true rfl, Nat.le_of_ble_eq_true rfl⟩) rfl rfl rfl hl.1 rfl (Nat.le_of_ble_eq_true rfl) dL_law_1353 ⟨Nat.le_refl _, Nat.le_refl _⟩ hK hP hD hS hA W6_len (fun H locs hP hD hS => ?_)
  refine lv_aload_n hx hb dL_law_1356 rfl (lv_at hl 2 rfl) ?_
  refine lv_aload_n hx hb dL_law_1357 rfl (lv_at hl 0 rfl) ?_
  refine lv_iload_n hx hb dL_law_1358 rfl (lv_at hl 3 rfl) ?_
  refine lv_iconst (v := 1) hx hb dL_law_1359 (by decide) ?_
  refine lv_iadd hx hb dL_law_1360 ?_
  refine va_sld hx hb hX hbl hbA hS v1 dL_law_1361 ?_
  refine lv_aload_n hx hb dL_law_1362 rfl (lv_at hl 0 rfl) ?_
  refine lv_iload_n hx hb dL_law_1363 rfl (lv_at hl 3 rfl) ?_
  refine lv_iconst (v := 2) hx hb dL_law_1364 (by decide) ?_
  refine lv_iadd hx hb dL_law_1365 ?_
  refine va_sld hx hb hX hbl hbA hS v2 dL_law_1366 ?_
  refine lv_aload_n hx hb dL_law_1367 rfl (lv_at hl 0 rfl) ?_
  refine lv_iload_n hx hb dL_law_1368 rfl (lv_at hl 3 rfl) ?_
  refine lv_iconst (v := 3) hx hb dL_law_1369 (by decide) ?_
  refine lv_iadd hx hb dL_law_1370 ?_
  refine va_sld hx hb hX hbl hbA hS v3 dL_law_1371 ?_
  refine lw_callR (ci := 6) (q0 := 0) (own := RL) (As := [.int (xs (nI i + (1 : Int32)).toNatClampNeg), .int (xs (nI i + (2 : Int32)).toNatClampNeg), .int (xs (nI i + (3 : Int32)).toNatClampNeg)]) (rest := [.int v]) ⟨hx, hb, hml, hown, hts⟩ (M7_wears l D y a2 s7 t7 (xs (nI i + (1 : Int32)).toNatClampNeg) (xs (nI i + (2 : Int32)).toNatClampNeg) (xs (nI i + (3 : Int32)).toNatClampNeg) v f7) (cwV 3 hts (gA_V wl_1040 wl_1041 wl_1042 wl_5 wl_1043) rfl rfl rfl (by decide +kernel) ⟨Nat.le_of_ble_eq_true rfl, Nat.le_of_ble_eq_true rfl⟩) rfl rfl rfl hl.1 rfl (Nat.le_of_ble_eq_true rfl) dL_law_1372 ⟨Nat.le_refl _, Nat.le_refl _⟩ hK hP hD hS hA W7_len (fun H locs hP hD hS => ?_)
  refine lv_icmp_eq (tgt := 1584) hx hb dL_law_1375 (by decide) (fun _ => ?_) (fun z => absurd rfl z)
  exact K t6 t7 R1 H locs ls hP hD hS hl
theorem lw_c37 {p : Program} {l : Launch} {e : Env} {s : State} {m : MethodId} {below : List Frame} {meth : Method} {c : Code} {b L : Nat} {xs : Nat → Int32} {D : va_G} {y : Nat → ClassId} {a a2 : Nat → Nat} {i : Nat} {s6 : S6} {s7 : S7} (hL : L ≤ 3072) (C0 : lw_At p s m meth c b L xs) (hK : va_K D vwCl (dTy y) s) (R0 : Rel s6 s7) (hi : i + 6 ≤ L) (K : ∀ (t6 : S6) (t7 : S7), Rel t6 t7 → lw_go p l e s m below meth c b D y a a2 i 1584 t6 t7) : lw_go p l e s m below meth c b D y a a2 i 1380 s6 s7 := by
  obtain ⟨hx, hb, hr, hml, hown, hts0, hX, hbl, hlocks, hgv⟩ := C0
  have hts : ∀ w ∈ wsL_law, w.before #[Value.ref b] s = true := fun w h => hts0 w (wsL_law_in w h)
  have hA : ∀ q : Nat, s.heap.size ≤ q → (fun q : Nat => s.heap.size ≤ q) q := fun _ h => h
  have hbA : ¬ (fun q : Nat => s.heap.size ≤ q) b := Nat.not_le.mpr hbl
  have v1 : vp_in (nI i + (1 : Int32)) L := lw_ix hL hi (j := 1) (by omega) rfl
  have v2 : vp_in (nI i + (2 : Int32)) L := lw_ix hL hi (j := 2) (by omega) rfl
  have v3 : vp_in (nI i + (3 : Int32)) L := lw_ix hL hi (j := 3) (by omega) rfl
  have v4 : vp_in (nI i + (4 : Int32)) L := lw_ix hL hi (j := 4) (by omega) rfl
  have v5 : vp_in (nI i + (5 : Int32)) L := lw_ix hL hi (j := 5) (by omega) rfl
  obtain ⟨v, t6, t7, f6, f7, R1⟩ := s_moves a a2 R0 (xs (nI i + (1 : Int32)).toNatClampNeg) (xs (nI i + (2 : Int32)).toNatClampNeg) (xs (nI i + (3 : Int32)).toNatClampNeg) (xs (nI i + (4 : Int32)).toNatClampNeg) (xs (nI i + (5 : Int32)).toNatClampNeg)
  intro H locs ls hP hD hS hl
  refine lv_aload_n hx hb dL_law_1380 rfl (lv_at hl 1 rfl) ?_
  refine lv_aload_n hx hb dL_law_1381 rfl (lv_at hl 0 rfl) ?_
  refine lv_iload_n hx hb dL_law_1382 rfl (lv_at hl 3 rfl) ?_
  refine lv_iconst (v := 1) hx hb dL_law_1383 (by decide) ?_
  refine lv_iadd hx hb dL_law_1384 ?_
  refine va_sld hx hb hX hbl hbA hS v1 dL_law_1385 ?_
  refine lv_aload_n hx hb dL_law_1386 rfl (lv_at hl 0 rfl) ?_
  refine lv_iload_n hx hb dL_law_1387 rfl (lv_at hl 3 rfl) ?_
  refine lv_iconst (v := 2) hx hb dL_law_1388 (by decide) ?_
  refine lv_iadd hx hb dL_law_1389 ?_
  refine va_sld hx hb hX hbl hbA hS v2 dL_law_1390 ?_
  refine lv_aload_n hx hb dL_law_1391 rfl (lv_at hl 0 rfl) ?_
  refine lv_iload_n hx hb dL_law_1392 rfl (lv_at hl 3 rfl) ?_
  refine lv_iconst (v := 3) hx hb dL_law_1393 (by decide) ?_
  refine lv_iadd hx hb dL_law_1394 ?_
  refine va_sld hx hb hX hbl hbA hS v3 dL_law_1395 ?_
  refine lv_aload_n hx hb dL_law_1396 rfl (lv_at hl 0 rfl) ?_
  refine lv_iload_n hx hb dL_law_1397 rfl (lv_at hl 3 rfl) ?_
  refine lv_iconst (v := 4) hx hb dL_law_1398 (by decide) ?_
  refine lv_iadd hx hb dL_law_1399 ?_
  refine va_sld hx hb hX hbl hbA hS v4 dL_law_1400 ?_
  refine lv_aload_n hx hb dL_law_1401 rfl (lv_at hl 0 rfl) ?_
  refine lv_iload_n hx hb dL_law_1402 rfl (lv_at hl 3 rfl) ?_
  refine lv_iconst (v := 5) hx hb dL_law_1403 (by decide) ?_
  refine lv_iadd hx hb dL_law_1404 ?_
  refine va_sld hx hb hX hbl hbA hS v5 dL_law_1405 ?_
  refine lw_callL (ci := 5) (q0 := 0) (own := RL) (As := [.int (xs (nI i + (1 : Int32)).toNatClampNeg), .int (xs (nI i + (2 : Int32)).toNatClampNeg), .int (xs (nI i + (3 : Int32)).toNatClampNeg), .int (xs (nI i + (4 : Int32)).toNatClampNeg), .int (xs (nI i + (5 : Int32)).toNatClampNeg)]) (rest := []) ⟨hx, hb, hml, hown, hts⟩ (M6_moves l D y a s6 t6 (xs (nI i + (1 : Int32)).toNatClampNeg) (xs (nI i + (2 : Int32)).toNatClampNeg) (xs (nI i + (3 : Int32)).toNatClampNeg) (xs (nI i + (4 : Int32)).toNatClampNeg) (xs (nI i + (5 : Int32)).toNatClampNeg) v f6) (cwV 5 hts (gA_V wl_1044 wl_1045 wl_1046 wl_2 wl_1047) rfl rfl rfl (by decide +kernel) ⟨Nat.le_of_ble_eq_true rfl, Nat.le_of_ble_eq_true rfl⟩) rfl rfl rfl hl.1 rfl (Nat.le_of_ble_eq_true rfl) dL_law_1406 ⟨Nat.le_refl _, Nat.le_refl _⟩ hK hP hD hS hA W6_len (fun H locs hP hD hS => ?_)
  refine lv_aload_n hx hb dL_law_1409 rfl (lv_at hl 2 rfl) ?_
  refine lv_aload_n hx hb dL_law_1410 rfl (lv_at hl 0 rfl) ?_
  refine lv_iload_n hx hb dL_law_1411 rfl (lv_at hl 3 rfl) ?_
  refine lv_iconst (v := 1) hx hb dL_law_1412 (by decide) ?_
  refine lv_iadd hx hb dL_law_1413 ?_
  refine va_sld hx hb hX hbl hbA hS v1 dL_law_1414 ?_
  refine lv_aload_n hx hb dL_law_1415 rfl (lv_at hl 0 rfl) ?_
  refine lv_iload_n hx hb dL_law_1416 rfl (lv_at hl 3 rfl) ?_
  refine lv_iconst (v := 2) hx hb dL_law_1417 (by decide) ?_
  refine lv_iadd hx hb dL_law_1418 ?_
  refine va_sld hx hb hX hbl hbA hS v2 dL_law_1419 ?_
  refine lv_aload_n hx hb dL_law_1420 rfl (lv_at hl 0 rfl) ?_
  refine lv_iload_n hx hb dL_law_1421 rfl (lv_at hl 3 rfl) ?_
  refine lv_iconst (v := 3) hx hb dL_law_1422 (by decide) ?_
  refine lv_iadd hx hb dL_law_1423 ?_
  refine va_sld hx hb hX hbl hbA hS v3 dL_law_1424 ?_
  refine lv_aload_n hx hb dL_law_1425 rfl (lv_at hl 0 rfl) ?_
  refine lv_iload_n hx hb dL_law_1426 rfl (lv_at hl 3 rfl) ?_
  refine lv_iconst (v := 4) hx hb dL_law_1427 (by decide) ?_
  refine lv_iadd hx hb dL_law_1428 ?_
  refine va_sld hx hb hX hbl hbA hS v4 dL_law_1429 ?_
  refine lv_aload_n hx hb dL_law_1430 rfl (lv_at hl 0 rfl) ?_
  refine lv_iload_n hx hb dL_law_1431 rfl (lv_at hl 3 rfl) ?_
  refine lv_iconst (v := 5) hx hb dL_law_1432 (by decide) ?_
  refine lv_iadd hx hb dL_law_1433 ?_
  refine va_sld hx hb hX hbl hbA hS v5 dL_law_1434 ?_
  refine lw_callR (ci := 6) (q0 := 0) (own := RL) (As := [.int (xs (nI i + (1 : Int32)).toNatClampNeg), .int (xs (nI i + (2 : Int32)).toNatClampNeg), .int (xs (nI i + (3 : Int32)).toNatClampNeg), .int (xs (nI i + (4 : Int32)).toNatClampNeg), .int (xs (nI i + (5 : Int32)).toNatClampNeg)]) (rest := [.int v]) ⟨hx, hb, hml, hown, hts⟩ (M7_moves l D y a2 s7 t7 (xs (nI i + (1 : Int32)).toNatClampNeg) (xs (nI i + (2 : Int32)).toNatClampNeg) (xs (nI i + (3 : Int32)).toNatClampNeg) (xs (nI i + (4 : Int32)).toNatClampNeg) (xs (nI i + (5 : Int32)).toNatClampNeg) v f7) (cwV 5 hts (gA_V wl_1055 wl_1056 wl_1057 wl_5 wl_1058) rfl rfl rfl (by decide +kernel) ⟨Nat.le_of_ble_eq_true rfl, Nat.le_of_ble_eq_true rfl⟩) rfl rfl rfl hl.1 rfl (Nat.le_of_ble_eq_true rfl) dL_law_1435 ⟨Nat.le_refl _, Nat.le_refl _⟩ hK hP hD hS hA W7_len (fun H locs hP hD hS => ?_)
  refine lv_icmp_eq (tgt := 1584) hx hb dL_law_1438 (by decide) (fun _ => ?_) (fun z => absurd rfl z)
  exact K t6 t7 R1 H locs ls hP hD hS hl
theorem lw_c38 {p : Program} {l : Launch} {e : Env} {s : State} {m : MethodId} {below : List Frame} {meth : Method} {c : Code} {b L : Nat} {xs : Nat → Int32} {D : va_G} {y : Nat → ClassId} {a a2 : Nat → Nat} {i : Nat} {s6 : S6} {s7 : S7} (hL : L ≤ 3072) (C0 : lw_At p s m meth c b L xs) (hK : va_K D vwCl (dTy y) s) (R0 : Rel s6 s7) (hi : i + 6 ≤ L) (K : ∀ (t6 : S6) (t7 : S7), Rel t6 t7 → lw_go p l e s m below meth c b D y a a2 i 1584 t6 t7) : lw_go p l e s m below meth c b D y a a2 i 1443 s6 s7 := by
  obtain ⟨hx, hb, hr, hml, hown, hts0, hX, hbl, hlocks, hgv⟩ := C0
  have hts : ∀ w ∈ wsL_law, w.before #[Value.ref b] s = true := fun w h => hts0 w (wsL_law_in w h)
  have hA : ∀ q : Nat, s.heap.size ≤ q → (fun q : Nat => s.heap.size ≤ q) q := fun _ h => h
  have hbA : ¬ (fun q : Nat => s.heap.size ≤ q) b := Nat.not_le.mpr hbl
  have v1 : vp_in (nI i + (1 : Int32)) L := lw_ix hL hi (j := 1) (by omega) rfl
  obtain ⟨v, t6, t7, f6, f7, R1⟩ := s_row a a2 R0 (xs (nI i + (1 : Int32)).toNatClampNeg)
  intro H locs ls hP hD hS hl
  refine lv_aload_n hx hb dL_law_1443 rfl (lv_at hl 1 rfl) ?_
  refine lv_aload_n hx hb dL_law_1444 rfl (lv_at hl 0 rfl) ?_
  refine lv_iload_n hx hb dL_law_1445 rfl (lv_at hl 3 rfl) ?_
  refine lv_iconst (v := 1) hx hb dL_law_1446 (by decide) ?_
  refine lv_iadd hx hb dL_law_1447 ?_
  refine va_sld hx hb hX hbl hbA hS v1 dL_law_1448 ?_
  refine lw_callL (ci := 5) (q0 := 0) (own := RL) (As := [.int (xs (nI i + (1 : Int32)).toNatClampNeg)]) (rest := []) ⟨hx, hb, hml, hown, hts⟩ (M6_row l D y a s6 t6 (xs (nI i + (1 : Int32)).toNatClampNeg) v f6) (cwV 1 hts (gA_V wl_1059 wl_1060 wl_1061 wl_2 wl_1062) rfl rfl rfl (by decide +kernel) ⟨Nat.le_of_ble_eq_true rfl, Nat.le_of_ble_eq_true rfl⟩) rfl rfl rfl hl.1 rfl (Nat.le_of_ble_eq_true rfl) dL_law_1449 ⟨Nat.le_refl _, Nat.le_refl _⟩ hK hP hD hS hA W6_len (fun H locs hP hD hS => ?_)
  refine lv_aload_n hx hb dL_law_1452 rfl (lv_at hl 2 rfl) ?_
  refine lv_aload_n hx hb dL_law_1453 rfl (lv_at hl 0 rfl) ?_
  refine lv_iload_n hx hb dL_law_1454 rfl (lv_at hl 3 rfl) ?_
  refine lv_iconst (v := 1) hx hb dL_law_1455 (by decide) ?_
  refine lv_iadd hx hb dL_law_1456 ?_
  refine va_sld hx hb hX hbl hbA hS v1 dL_law_1457 ?_
  refine lw_callR (ci := 6) (q0 := 0) (own := RL) (As := [.int (xs (nI i + (1 : Int32)).toNatClampNeg)]) (rest := [.int v]) ⟨hx, hb, hml, hown, hts⟩ (M7_row l D y a2 s7 t7 (xs (nI i + (1 : Int32)).toNatClampNeg) v f7) (cwV 1 hts (gA_V wl_1063 wl_1064 wl_1065 wl_5 wl_1066) rfl rfl rfl (by decide +kernel) ⟨Nat.le_of_ble_eq_true rfl, Nat.le_of_ble_eq_true rfl⟩) rfl rfl rfl hl.1 rfl (Nat.le_of_ble_eq_true rfl) dL_law_1458 ⟨Nat.le_refl _, Nat.le_refl _⟩ hK hP hD hS hA W7_len (fun H locs hP hD hS => ?_)
  refine lv_icmp_eq (tgt := 1584) hx hb dL_law_1461 (by decide) (fun _ => ?_) (fun z => absurd rfl z)
  exact K t6 t7 R1 H locs ls hP hD hS hl
theorem lw_c39 {p : Program} {l : Launch} {e : Env} {s : State} {m : MethodId} {below : List Frame} {meth : Method} {c : Code} {b L : Nat} {xs : Nat → Int32} {D : va_G} {y : Nat → ClassId} {a a2 : Nat → Nat} {i : Nat} {s6 : S6} {s7 : S7} (hL : L ≤ 3072) (C0 : lw_At p s m meth c b L xs) (hK : va_K D vwCl (dTy y) s) (R0 : Rel s6 s7) (hi : i + 6 ≤ L) (K : ∀ (t6 : S6) (t7 : S7), Rel t6 t7 → lw_go p l e s m below meth c b D y a a2 i 1584 t6 t7) : lw_go p l e s m below meth c b D y a a2 i 1466 s6 s7 := by
  obtain ⟨hx, hb, hr, hml, hown, hts0, hX, hbl, hlocks, hgv⟩ := C0
  have hts : ∀ w ∈ wsL_law, w.before #[Value.ref b] s = true := fun w h => hts0 w (wsL_law_in w h)
  have hA : ∀ q : Nat, s.heap.size ≤ q → (fun q : Nat => s.heap.size ≤ q) q := fun _ h => h
  have hbA : ¬ (fun q : Nat => s.heap.size ≤ q) b := Nat.not_le.mpr hbl
  obtain ⟨v, t6, t7, f6, f7, R1⟩ := s_judge a a2 R0
  intro H locs ls hP hD hS hl
  refine lv_aload_n hx hb dL_law_1466 rfl (lv_at hl 1 rfl) ?_
  refine lw_callL (ci := 5) (q0 := 0) (own := RL) (As := []) (rest := []) ⟨hx, hb, hml, hown, hts⟩ (M6_judge l D y a s6 t6 v f6) (cwV 0 hts (gA_V wl_1067 wl_1068 wl_1069 wl_2 wl_1070) rfl rfl rfl (by decide +kernel) ⟨Nat.le_of_ble_eq_true rfl, Nat.le_of_ble_eq_true rfl⟩) rfl rfl rfl hl.1 rfl (Nat.le_of_ble_eq_true rfl) dL_law_1467 ⟨Nat.le_refl _, Nat.le_refl _⟩ hK hP hD hS hA W6_len (fun H locs hP hD hS => ?_)
  refine lv_aload_n hx hb dL_law_1470 rfl (lv_at hl 2 rfl) ?_
  refine lw_callR (ci := 6) (q0 := 0) (own := RL) (As := []) (rest := [.int v]) ⟨hx, hb, hml, hown, hts⟩ (M7_judge l D y a2 s7 t7 v f7) (cwV 0 hts (gA_V wl_1071 wl_1072 wl_1073 wl_5 wl_1074) rfl rfl rfl (by decide +kernel) ⟨Nat.le_of_ble_eq_true rfl, Nat.le_of_ble_eq_true rfl⟩) rfl rfl rfl hl.1 rfl (Nat.le_of_ble_eq_true rfl) dL_law_1471 ⟨Nat.le_refl _, Nat.le_refl _⟩ hK hP hD hS hA W7_len (fun H locs hP hD hS => ?_)
  refine lv_icmp_eq (tgt := 1584) hx hb dL_law_1474 (by decide) (fun _ => ?_) (fun z => absurd rfl z)
  exact K t6 t7 R1 H locs ls hP hD hS hl
theorem lw_c40 {p : Program} {l : Launch} {e : Env} {s : State} {m : MethodId} {below : List Frame} {meth : Method} {c : Code} {b L : Nat} {xs : Nat → Int32} {D : va_G} {y : Nat → ClassId} {a a2 : Nat → Nat} {i : Nat} {s6 : S6} {s7 : S7} (hL : L ≤ 3072) (C0 : lw_At p s m meth c b L xs) (hK : va_K D vwCl (dTy y) s) (R0 : Rel s6 s7) (hi : i + 6 ≤ L) (K : ∀ (t6 : S6) (t7 : S7), Rel t6 t7 → lw_go p l e s m below meth c b D y a a2 i 1584 t6 t7) : lw_go p l e s m below meth c b D y a a2 i 1479 s6 s7 := by
  obtain ⟨hx, hb, hr, hml, hown, hts0, hX, hbl, hlocks, hgv⟩ := C0
  have hts : ∀ w ∈ wsL_law, w.before #[Value.ref b] s = true := fun w h => hts0 w (wsL_law_in w h)
  have hA : ∀ q : Nat, s.heap.size ≤ q → (fun q : Nat => s.heap.size ≤ q) q := fun _ h => h
  have hbA : ¬ (fun q : Nat => s.heap.size ≤ q) b := Nat.not_le.mpr hbl
  obtain ⟨v, t6, t7, f6, f7, R1⟩ := s_clear a a2 R0
  intro H locs ls hP hD hS hl
  refine lv_aload_n hx hb dL_law_1479 rfl (lv_at hl 1 rfl) ?_
  refine lw_callL (ci := 5) (q0 := 0) (own := RL) (As := []) (rest := []) ⟨hx, hb, hml, hown, hts⟩ (M6_clear l D y a s6 t6 v f6) (cwV 0 hts (gA_V wl_1075 wl_1076 wl_1077 wl_2 wl_1078) rfl rfl rfl (by decide +kernel) ⟨Nat.le_of_ble_eq_true rfl, Nat.le_of_ble_eq_true rfl⟩) rfl rfl rfl hl.1 rfl (Nat.le_of_ble_eq_true rfl) dL_law_1480 ⟨Nat.le_refl _, Nat.le_refl _⟩ hK hP hD hS hA W6_len (fun H locs hP hD hS => ?_)
  refine lv_aload_n hx hb dL_law_1483 rfl (lv_at hl 2 rfl) ?_
  refine lw_callR (ci := 6) (q0 := 0) (own := RL) (As := []) (rest := [.int v]) ⟨hx, hb, hml, hown, hts⟩ (M7_clear l D y a2 s7 t7 v f7) (cwV 0 hts (gA_V wl_1079 wl_1080 wl_1081 wl_5 wl_1082) rfl rfl rfl (by decide +kernel) ⟨Nat.le_of_ble_eq_true rfl, Nat.le_of_ble_eq_true rfl⟩) rfl rfl rfl hl.1 rfl (Nat.le_of_ble_eq_true rfl) dL_law_1484 ⟨Nat.le_refl _, Nat.le_refl _⟩ hK hP hD hS hA W7_len (fun H locs hP hD hS => ?_)
  refine lv_icmp_eq (tgt := 1584) hx hb dL_law_1487 (by decide) (fun _ => ?_) (fun z => absurd rfl z)
  exact K t6 t7 R1 H locs ls hP hD hS hl
theorem lw_c41 {p : Program} {l : Launch} {e : Env} {s : State} {m : MethodId} {below : List Frame} {meth : Method} {c : Code} {b L : Nat} {xs : Nat → Int32} {D : va_G} {y : Nat → ClassId} {a a2 : Nat → Nat} {i : Nat} {s6 : S6} {s7 : S7} (hL : L ≤ 3072) (C0 : lw_At p s m meth c b L xs) (hK : va_K D vwCl (dTy y) s) (R0 : Rel s6 s7) (hi : i + 6 ≤ L) (K : ∀ (t6 : S6) (t7 : S7), Rel t6 t7 → lw_go p l e s m below meth c b D y a a2 i 1584 t6 t7) : lw_go p l e s m below meth c b D y a a2 i 1492 s6 s7 := by
  obtain ⟨hx, hb, hr, hml, hown, hts0, hX, hbl, hlocks, hgv⟩ := C0
  have hts : ∀ w ∈ wsL_law, w.before #[Value.ref b] s = true := fun w h => hts0 w (wsL_law_in w h)
  have hA : ∀ q : Nat, s.heap.size ≤ q → (fun q : Nat => s.heap.size ≤ q) q := fun _ h => h
  have hbA : ¬ (fun q : Nat => s.heap.size ≤ q) b := Nat.not_le.mpr hbl
  have v1 : vp_in (nI i + (1 : Int32)) L := lw_ix hL hi (j := 1) (by omega) rfl
  have v2 : vp_in (nI i + (2 : Int32)) L := lw_ix hL hi (j := 2) (by omega) rfl
  have v3 : vp_in (nI i + (3 : Int32)) L := lw_ix hL hi (j := 3) (by omega) rfl
  obtain ⟨v, t6, t7, f6, f7, R1⟩ := s_lots a a2 R0 (xs (nI i + (1 : Int32)).toNatClampNeg) (xs (nI i + (2 : Int32)).toNatClampNeg) (xs (nI i + (3 : Int32)).toNatClampNeg)
  intro H locs ls hP hD hS hl
  refine lv_aload_n hx hb dL_law_1492 rfl (lv_at hl 1 rfl) ?_
  refine lv_aload_n hx hb dL_law_1493 rfl (lv_at hl 0 rfl) ?_
  refine lv_iload_n hx hb dL_law_1494 rfl (lv_at hl 3 rfl) ?_
  refine lv_iconst (v := 1) hx hb dL_law_1495 (by decide) ?_
  refine lv_iadd hx hb dL_law_1496 ?_
  refine va_sld hx hb hX hbl hbA hS v1 dL_law_1497 ?_
  refine lv_aload_n hx hb dL_law_1498 rfl (lv_at hl 0 rfl) ?_
  refine lv_iload_n hx hb dL_law_1499 rfl (lv_at hl 3 rfl) ?_
  refine lv_iconst (v := 2) hx hb dL_law_1500 (by decide) ?_
  refine lv_iadd hx hb dL_law_1501 ?_
  refine va_sld hx hb hX hbl hbA hS v2 dL_law_1502 ?_
  refine lv_aload_n hx hb dL_law_1503 rfl (lv_at hl 0 rfl) ?_
  refine lv_iload_n hx hb dL_law_1504 rfl (lv_at hl 3 rfl) ?_
  refine lv_iconst (v := 3) hx hb dL_law_1505 (by decide) ?_
  refine lv_iadd hx hb dL_law_1506 ?_
  refine va_sld hx hb hX hbl hbA hS v3 dL_law_1507 ?_
  refine lw_callL (ci := 5) (q0 := 0) (own := RL) (As := [.int (xs (nI i + (1 : Int32)).toNatClampNeg), .int (xs (nI i + (2 : Int32)).toNatClampNeg), .int (xs (nI i + (3 : Int32)).toNatClampNeg)]) (rest := []) ⟨hx, hb, hml, hown, hts⟩ (M6_lots l D y a s6 t6 (xs (nI i + (1 : Int32)).toNatClampNeg) (xs (nI i + (2 : Int32)).toNatClampNeg) (xs (nI i + (3 : Int32)).toNatClampNeg) v f6) (cwV 3 hts (gA_V wl_1083 wl_1084 wl_1085 wl_2 wl_1086) rfl rfl rfl (by decide +kernel) ⟨Nat.le_of_ble_eq_true rfl, Nat.le_of_ble_eq_true rfl⟩) rfl rfl rfl hl.1 rfl (Nat.le_of_ble_eq_true rfl) dL_law_1508 ⟨Nat.le_refl _, Nat.le_refl _⟩ hK hP hD hS hA W6_len (fun H locs hP hD hS => ?_)
  refine lv_aload_n hx hb dL_law_1511 rfl (lv_at hl 2 rfl) ?_
  refine lv_aload_n hx hb dL_law_1512 rfl (lv_at hl 0 rfl) ?_
  refine lv_iload_n hx hb dL_law_1513 rfl (lv_at hl 3 rfl) ?_
  refine lv_iconst (v := 1) hx hb dL_law_1514 (by decide) ?_
  refine lv_iadd hx hb dL_law_1515 ?_
  refine va_sld hx hb hX hbl hbA hS v1 dL_law_1516 ?_
  refine lv_aload_n hx hb dL_law_1517 rfl (lv_at hl 0 rfl) ?_
  refine lv_iload_n hx hb dL_law_1518 rfl (lv_at hl 3 rfl) ?_
  refine lv_iconst (v := 2) hx hb dL_law_1519 (by decide) ?_
  refine lv_iadd hx hb dL_law_1520 ?_
  refine va_sld hx hb hX hbl hbA hS v2 dL_law_1521 ?_
  refine lv_aload_n hx hb dL_law_1522 rfl (lv_at hl 0 rfl) ?_
  refine lv_iload_n hx hb dL_law_1523 rfl (lv_at hl 3 rfl) ?_
  refine lv_iconst (v := 3) hx hb dL_law_1524 (by decide) ?_
  refine lv_iadd hx hb dL_law_1525 ?_
  refine va_sld hx hb hX hbl hbA hS v3 dL_law_1526 ?_
  refine lw_callR (ci := 6) (q0 := 0) (own := RL) (As := [.int (xs (nI i + (1 : Int32)).toNatClampNeg), .int (xs (nI i + (2 : Int32)).toNatClampNeg), .int (xs (nI i + (3 : Int32)).toNatClampNeg)]) (rest := [.int v]) ⟨hx, hb, hml, hown, hts⟩ (M7_lots l D y a2 s7 t7 (xs (nI i + (1 : Int32)).toNatClampNeg) (xs (nI i + (2 : Int32)).toNatClampNeg) (xs (nI i + (3 : Int32)).toNatClampNeg) v f7) (cwV 3 hts (gA_V wl_1090 wl_1091 wl_1092 wl_5 wl_1093) rfl rfl rfl (by decide +kernel) ⟨Nat.le_of_ble_eq_true rfl, Nat.le_of_ble_eq_true rfl⟩) rfl rfl rfl hl.1 rfl (Nat.le_of_ble_eq_true rfl) dL_law_1527 ⟨Nat.le_refl _, Nat.le_refl _⟩ hK hP hD hS hA W7_len (fun H locs hP hD hS => ?_)
  refine lv_icmp_eq (tgt := 1584) hx hb dL_law_1530 (by decide) (fun _ => ?_) (fun z => absurd rfl z)
  exact K t6 t7 R1 H locs ls hP hD hS hl
theorem lw_c42 {p : Program} {l : Launch} {e : Env} {s : State} {m : MethodId} {below : List Frame} {meth : Method} {c : Code} {b L : Nat} {xs : Nat → Int32} {D : va_G} {y : Nat → ClassId} {a a2 : Nat → Nat} {i : Nat} {s6 : S6} {s7 : S7} (hL : L ≤ 3072) (C0 : lw_At p s m meth c b L xs) (hK : va_K D vwCl (dTy y) s) (R0 : Rel s6 s7) (hi : i + 6 ≤ L) (K : ∀ (t6 : S6) (t7 : S7), Rel t6 t7 → lw_go p l e s m below meth c b D y a a2 i 1584 t6 t7) : lw_go p l e s m below meth c b D y a a2 i 1535 s6 s7 := by
  obtain ⟨hx, hb, hr, hml, hown, hts0, hX, hbl, hlocks, hgv⟩ := C0
  have hts : ∀ w ∈ wsL_law, w.before #[Value.ref b] s = true := fun w h => hts0 w (wsL_law_in w h)
  have hA : ∀ q : Nat, s.heap.size ≤ q → (fun q : Nat => s.heap.size ≤ q) q := fun _ h => h
  have hbA : ¬ (fun q : Nat => s.heap.size ≤ q) b := Nat.not_le.mpr hbl
  obtain ⟨v, t6, t7, f6, f7, R1⟩ := s_image a a2 R0
  intro H locs ls hP hD hS hl
  refine lv_aload_n hx hb dL_law_1535 rfl (lv_at hl 1 rfl) ?_
  refine lw_callL (ci := 5) (q0 := 0) (own := RL) (As := []) (rest := []) ⟨hx, hb, hml, hown, hts⟩ (M6_image l D y a s6 t6 v f6) (cwV 0 hts (gA_V wl_1102 wl_1103 wl_1104 wl_2 wl_1105) rfl rfl rfl (by decide +kernel) ⟨Nat.le_of_ble_eq_true rfl, Nat.le_of_ble_eq_true rfl⟩) rfl rfl rfl hl.1 rfl (Nat.le_of_ble_eq_true rfl) dL_law_1536 ⟨Nat.le_refl _, Nat.le_refl _⟩ hK hP hD hS hA W6_len (fun H locs hP hD hS => ?_)
  refine lv_aload_n hx hb dL_law_1539 rfl (lv_at hl 2 rfl) ?_
  refine lw_callR (ci := 6) (q0 := 0) (own := RL) (As := []) (rest := [.int v]) ⟨hx, hb, hml, hown, hts⟩ (M7_image l D y a2 s7 t7 v f7) (cwV 0 hts (gA_V wl_1107 wl_1108 wl_1109 wl_5 wl_1110) rfl rfl rfl (by decide +kernel) ⟨Nat.le_of_ble_eq_true rfl, Nat.le_of_ble_eq_true rfl⟩) rfl rfl rfl hl.1 rfl (Nat.le_of_ble_eq_true rfl) dL_law_1540 ⟨Nat.le_refl _, Nat.le_refl _⟩ hK hP hD hS hA W7_len (fun H locs hP hD hS => ?_)
  refine lv_icmp_eq (tgt := 1584) hx hb dL_law_1543 (by decide) (fun _ => ?_) (fun z => absurd rfl z)
  exact K t6 t7 R1 H locs ls hP hD hS hl
theorem lw_c43 {p : Program} {l : Launch} {e : Env} {s : State} {m : MethodId} {below : List Frame} {meth : Method} {c : Code} {b L : Nat} {xs : Nat → Int32} {D : va_G} {y : Nat → ClassId} {a a2 : Nat → Nat} {i : Nat} {s6 : S6} {s7 : S7} (hL : L ≤ 3072) (C0 : lw_At p s m meth c b L xs) (hK : va_K D vwCl (dTy y) s) (R0 : Rel s6 s7) (hi : i + 6 ≤ L) (K : ∀ (t6 : S6) (t7 : S7), Rel t6 t7 → lw_go p l e s m below meth c b D y a a2 i 1584 t6 t7) : lw_go p l e s m below meth c b D y a a2 i 1548 s6 s7 := by
  obtain ⟨hx, hb, hr, hml, hown, hts0, hX, hbl, hlocks, hgv⟩ := C0
  have hts : ∀ w ∈ wsL_law, w.before #[Value.ref b] s = true := fun w h => hts0 w (wsL_law_in w h)
  have hA : ∀ q : Nat, s.heap.size ≤ q → (fun q : Nat => s.heap.size ≤ q) q := fun _ h => h
  have hbA : ¬ (fun q : Nat => s.heap.size ≤ q) b := Nat.not_le.mpr hbl
  obtain ⟨v, t6, t7, f6, f7, R1⟩ := s_restore a a2 R0
  intro H locs ls hP hD hS hl
  refine lv_aload_n hx hb dL_law_1548 rfl (lv_at hl 1 rfl) ?_
  refine lw_callL (ci := 5) (q0 := 0) (own := RL) (As := []) (rest := []) ⟨hx, hb, hml, hown, hts⟩ (M6_restore l D y a s6 t6 v f6) (cwV 0 hts (gA_V wl_1112 wl_1113 wl_1114 wl_2 wl_1115) rfl rfl rfl (by decide +kernel) ⟨Nat.le_of_ble_eq_true rfl, Nat.le_of_ble_eq_true rfl⟩) rfl rfl rfl hl.1 rfl (Nat.le_of_ble_eq_true rfl) dL_law_1549 ⟨Nat.le_refl _, Nat.le_refl _⟩ hK hP hD hS hA W6_len (fun H locs hP hD hS => ?_)
  refine lv_aload_n hx hb dL_law_1552 rfl (lv_at hl 2 rfl) ?_
  refine lw_callR (ci := 6) (q0 := 0) (own := RL) (As := []) (rest := [.int v]) ⟨hx, hb, hml, hown, hts⟩ (M7_restore l D y a2 s7 t7 v f7) (cwV 0 hts (gA_V wl_1116 wl_1117 wl_1118 wl_5 wl_1119) rfl rfl rfl (by decide +kernel) ⟨Nat.le_of_ble_eq_true rfl, Nat.le_of_ble_eq_true rfl⟩) rfl rfl rfl hl.1 rfl (Nat.le_of_ble_eq_true rfl) dL_law_1553 ⟨Nat.le_refl _, Nat.le_refl _⟩ hK hP hD hS hA W7_len (fun H locs hP hD hS => ?_)
  refine lv_icmp_eq (tgt := 1584) hx hb dL_law_1556 (by decide) (fun _ => ?_) (fun z => absurd rfl z)
  exact K t6 t7 R1 H locs ls hP hD hS hl
theorem lw_c44 {p : Program} {l : Launch} {e : Env} {s : State} {m : MethodId} {below : List Frame} {meth : Method} {c : Code} {b L : Nat} {xs : Nat → Int32} {D : va_G} {y : Nat → ClassId} {a a2 : Nat → Nat} {i : Nat} {s6 : S6} {s7 : S7} (hL : L ≤ 3072) (C0 : lw_At p s m meth c b L xs) (hK : va_K D vwCl (dTy y) s) (R0 : Rel s6 s7) (hi : i + 6 ≤ L) (K : ∀ (t6 : S6) (t7 : S7), Rel t6 t7 → lw_go p l e s m below meth c b D y a a2 i 1584 t6 t7) : lw_go p l e s m below meth c b D y a a2 i 1561 s6 s7 := by
  obtain ⟨hx, hb, hr, hml, hown, hts0, hX, hbl, hlocks, hgv⟩ := C0
  have hts : ∀ w ∈ wsL_law, w.before #[Value.ref b] s = true := fun w h => hts0 w (wsL_law_in w h)
  have hA : ∀ q : Nat, s.heap.size ≤ q → (fun q : Nat => s.heap.size ≤ q) q := fun _ h => h
  have hbA : ¬ (fun q : Nat => s.heap.size ≤ q) b := Nat.not_le.mpr hbl
  have v1 : vp_in (nI i + (1 : Int32)) L := lw_ix hL hi (j := 1) (by omega) rfl
  obtain ⟨v, t6, t7, f6, f7, R1⟩ := s_count a a2 R0 (xs (nI i + (1 : Int32)).toNatClampNeg)
  intro H locs ls hP hD hS hl
  refine lv_aload_n hx hb dL_law_1561 rfl (lv_at hl 1 rfl) ?_
  refine lv_aload_n hx hb dL_law_1562 rfl (lv_at hl 0 rfl) ?_
  refine lv_iload_n hx hb dL_law_1563 rfl (lv_at hl 3 rfl) ?_
  refine lv_iconst (v := 1) hx hb dL_law_1564 (by decide) ?_
  refine lv_iadd hx hb dL_law_1565 ?_
  refine va_sld hx hb hX hbl hbA hS v1 dL_law_1566 ?_
  refine lw_callL (ci := 5) (q0 := 0) (own := RL) (As := [.int (xs (nI i + (1 : Int32)).toNatClampNeg)]) (rest := []) ⟨hx, hb, hml, hown, hts⟩ (M6_count l D y a s6 t6 (xs (nI i + (1 : Int32)).toNatClampNeg) v f6) (cwV 1 hts (gA_V wl_1120 wl_1121 wl_1122 wl_2 wl_1123) rfl rfl rfl (by decide +kernel) ⟨Nat.le_of_ble_eq_true rfl, Nat.le_of_ble_eq_true rfl⟩) rfl rfl rfl hl.1 rfl (Nat.le_of_ble_eq_true rfl) dL_law_1567 ⟨Nat.le_refl _, Nat.le_refl _⟩ hK hP hD hS hA W6_len (fun H locs hP hD hS => ?_)
  refine lv_aload_n hx hb dL_law_1570 rfl (lv_at hl 2 rfl) ?_
  refine lv_aload_n hx hb dL_law_1571 rfl (lv_at hl 0 rfl) ?_
  refine lv_iload_n hx hb dL_law_1572 rfl (lv_at hl 3 rfl) ?_
  refine lv_iconst (v := 1) hx hb dL_law_1573 (by decide) ?_
  refine lv_iadd hx hb dL_law_1574 ?_
  refine va_sld hx hb hX hbl hbA hS v1 dL_law_1575 ?_
  refine lw_callR (ci := 6) (q0 := 0) (own := RL) (As := [.int (xs (nI i + (1 : Int32)).toNatClampNeg)]) (rest := [.int v]) ⟨hx, hb, hml, hown, hts⟩ (M7_count l D y a2 s7 t7 (xs (nI i + (1 : Int32)).toNatClampNeg) v f7) (cwV 1 hts (gA_V wl_1132 wl_1133 wl_1134 wl_5 wl_1135) rfl rfl rfl (by decide +kernel) ⟨Nat.le_of_ble_eq_true rfl, Nat.le_of_ble_eq_true rfl⟩) rfl rfl rfl hl.1 rfl (Nat.le_of_ble_eq_true rfl) dL_law_1576 ⟨Nat.le_refl _, Nat.le_refl _⟩ hK hP hD hS hA W7_len (fun H locs hP hD hS => ?_)
  refine lv_icmp_eq (tgt := 1584) hx hb dL_law_1579 (by decide) (fun _ => ?_) (fun z => absurd rfl z)
  exact K t6 t7 R1 H locs ls hP hD hS hl
