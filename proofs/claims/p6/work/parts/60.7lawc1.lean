section WLC
theorem wld_854 : decode code 854 = .ok (.aload_n 1, 1) := by decide +kernel
theorem wld_855 : decode code 855 = .ok (.aload_n 0, 1) := by decide +kernel
theorem wld_856 : decode code 856 = .ok (.iload 4, 2) := by decide +kernel
theorem wld_858 : decode code 858 = .ok (.iconst 1, 1) := by decide +kernel
theorem wld_859 : decode code 859 = .ok (.iadd, 1) := by decide +kernel
theorem wld_860 : decode code 860 = .ok (.iaload, 1) := by decide +kernel
theorem wld_861 : decode code 861 = .ok (.aload_n 0, 1) := by decide +kernel
theorem wld_862 : decode code 862 = .ok (.iload 4, 2) := by decide +kernel
theorem wld_864 : decode code 864 = .ok (.iconst 2, 1) := by decide +kernel
theorem wld_865 : decode code 865 = .ok (.iadd, 1) := by decide +kernel
theorem wld_866 : decode code 866 = .ok (.iaload, 1) := by decide +kernel
theorem wld_867 : decode code 867 = .ok (.aload_n 3, 1) := by decide +kernel
theorem wld_868 : decode code 868 = .ok (.invokestatic 173, 3) := by decide +kernel
theorem wld_871 : decode code 871 = .ok (.istore 5, 2) := by decide +kernel
theorem wld_873 : decode code 873 = .ok (.aload_n 2, 1) := by decide +kernel
theorem wld_874 : decode code 874 = .ok (.aload_n 0, 1) := by decide +kernel
theorem wld_875 : decode code 875 = .ok (.iload 4, 2) := by decide +kernel
theorem wld_877 : decode code 877 = .ok (.iconst 1, 1) := by decide +kernel
theorem wld_878 : decode code 878 = .ok (.iadd, 1) := by decide +kernel
theorem wld_879 : decode code 879 = .ok (.iaload, 1) := by decide +kernel
theorem wld_880 : decode code 880 = .ok (.aload_n 0, 1) := by decide +kernel
theorem wld_881 : decode code 881 = .ok (.iload 4, 2) := by decide +kernel
theorem wld_883 : decode code 883 = .ok (.iconst 2, 1) := by decide +kernel
theorem wld_884 : decode code 884 = .ok (.iadd, 1) := by decide +kernel
theorem wld_885 : decode code 885 = .ok (.iaload, 1) := by decide +kernel
theorem wld_886 : decode code 886 = .ok (.invokevirtual 175, 3) := by decide +kernel
theorem wld_889 : decode code 889 = .ok (.istore 6, 2) := by decide +kernel
theorem wld_891 : decode code 891 = .ok (.goto 536, 3) := by decide +kernel
set_option maxRecDepth 100000 in
set_option maxHeartbeats 4000000 in
theorem wl_read {X : wt_X} {o b L : Nat} {xs : Nat → Int32} {n K : Nat} {Inv : wt_St → Prop} {i : Int32} (hE : wt_OkO X o code 7 "WornTypeLaw" 400 100000) (hdm : ∀ i, wt_dom (wt_xw X) i ↔ i < 321) (hSN : wt_SN (wt_Ao (wt_xw X) o (wt_xs X).heap.size) (wt_xs X) (wt_xs X).heap) (htr : (wt_xl X).stackTraces = false) (hX : wt_scr X o b L xs) (hi : ∀ c : Int32, c = 1 ∨ c = 2 ∨ c = 3 ∨ c = 4 ∨ c = 5 → vp_in (i + c) L) (hK : K + 8 ≤ 100000) (hP : wt_P_read n Inv) {σ : wt_St} (hσ : Inv σ) (kn : ∀ τ : wt_St, Inv τ → wt_O X o (K + 8) τ 1427 [some (.ref b), some (.ref (wt_ad (wt_xw X) 0)), some (.ref (wt_ad (wt_xw X) 108)), some (.ref o), some (.int i), none, none] []) : wt_O X o K σ 854 [some (.ref b), some (.ref (wt_ad (wt_xw X) 0)), some (.ref (wt_ad (wt_xw X) 108)), some (.ref o), some (.int i), none, none] [] := by
  have hD : ∀ i, i < 108 → wt_dom (wt_xw X) i := fun i hi => (hdm i).mpr (by omega)
  have hM : ∀ i, 108 ≤ i → i < 321 → wt_dom (wt_xw X) i := fun i _ hi => (hdm i).mpr hi
  obtain ⟨q, hq, hx, r, hr, hI⟩ := hP _ (xs (i + (1 : Int32)).toNatClampNeg) (xs (i + (2 : Int32)).toNatClampNeg) hσ
  refine wt_o_aload_n hE wld_854 rfl ?_
  refine wt_o_aload_n hE wld_855 rfl ?_
  refine wt_o_iload hE wld_856 rfl ?_
  refine wt_o_iconst hE (1 : Int32) wld_858 (by decide) ?_
  refine wt_o_iadd hE wld_859 ?_
  refine wt_o_sld hE hX (hi 1 (by decide)) wld_860 ?_
  refine wt_o_aload_n hE wld_861 rfl ?_
  refine wt_o_iload hE wld_862 rfl ?_
  refine wt_o_iconst hE (2 : Int32) wld_864 (by decide) ?_
  refine wt_o_iadd hE wld_865 ?_
  refine wt_o_sld hE hX (hi 2 (by decide)) wld_866 ?_
  refine wt_o_aload_n hE wld_867 rfl ?_
  refine wt_o_callW hE hSN (k := 4) (dd := 8) (mc := 8) [.ref (wt_ad (wt_xw X) 0), .int (xs (i + (1 : Int32)).toNatClampNeg), .int (xs (i + (2 : Int32)).toNatClampNeg), .ref o] (wt_g5 162 rfl rfl) (wt_g5 163 rfl rfl) (wt_g1 0 rfl rfl) wt_cm_read ⟨by decide, by decide, by decide +kernel⟩ (by decide) (ww_read_ok htr hE.2.2 hD hq hx) (by decide) rfl rfl (Nat.le_of_ble_eq_true rfl) (by omega) wld_868 (fun w5 => ?_)
  refine wt_o_istore hE [some (.ref b), some (.ref (wt_ad (wt_xw X) 0)), some (.ref (wt_ad (wt_xw X) 108)), some (.ref o), some (.int i), some (.int w5), none] wld_871 (by decide) rfl ?_
  refine wt_o_aload_n hE wld_873 rfl ?_
  refine wt_o_aload_n hE wld_874 rfl ?_
  refine wt_o_iload hE wld_875 rfl ?_
  refine wt_o_iconst hE (1 : Int32) wld_877 (by decide) ?_
  refine wt_o_iadd hE wld_878 ?_
  refine wt_o_sld hE hX (hi 1 (by decide)) wld_879 ?_
  refine wt_o_aload_n hE wld_880 rfl ?_
  refine wt_o_iload hE wld_881 rfl ?_
  refine wt_o_iconst hE (2 : Int32) wld_883 (by decide) ?_
  refine wt_o_iadd hE wld_884 ?_
  refine wt_o_sld hE hX (hi 2 (by decide)) wld_885 ?_
  refine wt_o_callVi (dd := 2) hE [.int (xs (i + (1 : Int32)).toNatClampNeg), .int (xs (i + (2 : Int32)).toNatClampNeg)] wt_lm_lw_175 wt_ya_md_read (wp_md_read_ok hM hr) (by decide) (hM 108 (by decide) (by decide)) wt_L108 rfl rfl rfl (Nat.le_of_ble_eq_true rfl) (by omega) wld_886 ?_
  refine wt_o_istore hE [some (.ref b), some (.ref (wt_ad (wt_xw X) 0)), some (.ref (wt_ad (wt_xw X) 108)), some (.ref o), some (.int i), some (.int w5), some (.int r.1)] wld_889 (by decide) rfl ?_
  refine wt_o_goto hE 1427 wld_891 rfl ?_
  exact wt_o_wk [true, true, true, true, true, false, false] rfl (kn _ hI)
theorem wld_894 : decode code 894 = .ok (.aload_n 1, 1) := by decide +kernel
theorem wld_895 : decode code 895 = .ok (.aload_n 0, 1) := by decide +kernel
theorem wld_896 : decode code 896 = .ok (.iload 4, 2) := by decide +kernel
theorem wld_898 : decode code 898 = .ok (.iconst 1, 1) := by decide +kernel
theorem wld_899 : decode code 899 = .ok (.iadd, 1) := by decide +kernel
theorem wld_900 : decode code 900 = .ok (.iaload, 1) := by decide +kernel
theorem wld_901 : decode code 901 = .ok (.aload_n 0, 1) := by decide +kernel
theorem wld_902 : decode code 902 = .ok (.iload 4, 2) := by decide +kernel
theorem wld_904 : decode code 904 = .ok (.iconst 2, 1) := by decide +kernel
theorem wld_905 : decode code 905 = .ok (.iadd, 1) := by decide +kernel
theorem wld_906 : decode code 906 = .ok (.iaload, 1) := by decide +kernel
theorem wld_907 : decode code 907 = .ok (.aload_n 0, 1) := by decide +kernel
theorem wld_908 : decode code 908 = .ok (.iload 4, 2) := by decide +kernel
theorem wld_910 : decode code 910 = .ok (.iconst 3, 1) := by decide +kernel
theorem wld_911 : decode code 911 = .ok (.iadd, 1) := by decide +kernel
theorem wld_912 : decode code 912 = .ok (.iaload, 1) := by decide +kernel
theorem wld_913 : decode code 913 = .ok (.aload_n 3, 1) := by decide +kernel
theorem wld_914 : decode code 914 = .ok (.invokestatic 176, 3) := by decide +kernel
theorem wld_917 : decode code 917 = .ok (.istore 5, 2) := by decide +kernel
theorem wld_919 : decode code 919 = .ok (.aload_n 2, 1) := by decide +kernel
theorem wld_920 : decode code 920 = .ok (.aload_n 0, 1) := by decide +kernel
theorem wld_921 : decode code 921 = .ok (.iload 4, 2) := by decide +kernel
theorem wld_923 : decode code 923 = .ok (.iconst 1, 1) := by decide +kernel
theorem wld_924 : decode code 924 = .ok (.iadd, 1) := by decide +kernel
theorem wld_925 : decode code 925 = .ok (.iaload, 1) := by decide +kernel
theorem wld_926 : decode code 926 = .ok (.aload_n 0, 1) := by decide +kernel
theorem wld_927 : decode code 927 = .ok (.iload 4, 2) := by decide +kernel
theorem wld_929 : decode code 929 = .ok (.iconst 2, 1) := by decide +kernel
theorem wld_930 : decode code 930 = .ok (.iadd, 1) := by decide +kernel
theorem wld_931 : decode code 931 = .ok (.iaload, 1) := by decide +kernel
theorem wld_932 : decode code 932 = .ok (.aload_n 0, 1) := by decide +kernel
theorem wld_933 : decode code 933 = .ok (.iload 4, 2) := by decide +kernel
theorem wld_935 : decode code 935 = .ok (.iconst 3, 1) := by decide +kernel
theorem wld_936 : decode code 936 = .ok (.iadd, 1) := by decide +kernel
theorem wld_937 : decode code 937 = .ok (.iaload, 1) := by decide +kernel
theorem wld_938 : decode code 938 = .ok (.invokevirtual 178, 3) := by decide +kernel
theorem wld_941 : decode code 941 = .ok (.istore 6, 2) := by decide +kernel
theorem wld_943 : decode code 943 = .ok (.goto 484, 3) := by decide +kernel
set_option maxRecDepth 100000 in
set_option maxHeartbeats 4000000 in
theorem wl_least {X : wt_X} {o b L : Nat} {xs : Nat → Int32} {n K : Nat} {Inv : wt_St → Prop} {i : Int32} (hE : wt_OkO X o code 7 "WornTypeLaw" 400 100000) (hdm : ∀ i, wt_dom (wt_xw X) i ↔ i < 321) (hSN : wt_SN (wt_Ao (wt_xw X) o (wt_xs X).heap.size) (wt_xs X) (wt_xs X).heap) (htr : (wt_xl X).stackTraces = false) (hX : wt_scr X o b L xs) (hi : ∀ c : Int32, c = 1 ∨ c = 2 ∨ c = 3 ∨ c = 4 ∨ c = 5 → vp_in (i + c) L) (hK : K + 8 ≤ 100000) (hP : wt_P_least n Inv) {σ : wt_St} (hσ : Inv σ) (kn : ∀ τ : wt_St, Inv τ → wt_O X o (K + 8) τ 1427 [some (.ref b), some (.ref (wt_ad (wt_xw X) 0)), some (.ref (wt_ad (wt_xw X) 108)), some (.ref o), some (.int i), none, none] []) : wt_O X o K σ 894 [some (.ref b), some (.ref (wt_ad (wt_xw X) 0)), some (.ref (wt_ad (wt_xw X) 108)), some (.ref o), some (.int i), none, none] [] := by
  have hD : ∀ i, i < 108 → wt_dom (wt_xw X) i := fun i hi => (hdm i).mpr (by omega)
  have hM : ∀ i, 108 ≤ i → i < 321 → wt_dom (wt_xw X) i := fun i _ hi => (hdm i).mpr hi
  obtain ⟨q, hq, hx, r, hr, hI⟩ := hP _ (xs (i + (1 : Int32)).toNatClampNeg) (xs (i + (2 : Int32)).toNatClampNeg) (xs (i + (3 : Int32)).toNatClampNeg) hσ
  refine wt_o_aload_n hE wld_894 rfl ?_
  refine wt_o_aload_n hE wld_895 rfl ?_
  refine wt_o_iload hE wld_896 rfl ?_
  refine wt_o_iconst hE (1 : Int32) wld_898 (by decide) ?_
  refine wt_o_iadd hE wld_899 ?_
  refine wt_o_sld hE hX (hi 1 (by decide)) wld_900 ?_
  refine wt_o_aload_n hE wld_901 rfl ?_
  refine wt_o_iload hE wld_902 rfl ?_
  refine wt_o_iconst hE (2 : Int32) wld_904 (by decide) ?_
  refine wt_o_iadd hE wld_905 ?_
  refine wt_o_sld hE hX (hi 2 (by decide)) wld_906 ?_
  refine wt_o_aload_n hE wld_907 rfl ?_
  refine wt_o_iload hE wld_908 rfl ?_
  refine wt_o_iconst hE (3 : Int32) wld_910 (by decide) ?_
  refine wt_o_iadd hE wld_911 ?_
  refine wt_o_sld hE hX (hi 3 (by decide)) wld_912 ?_
  refine wt_o_aload_n hE wld_913 rfl ?_
  refine wt_o_callW hE hSN (k := 5) (dd := 8) (mc := 8) [.ref (wt_ad (wt_xw X) 0), .int (xs (i + (1 : Int32)).toNatClampNeg), .int (xs (i + (2 : Int32)).toNatClampNeg), .int (xs (i + (3 : Int32)).toNatClampNeg), .ref o] (wt_g5 170 rfl rfl) (wt_g5 171 rfl rfl) (wt_g1 0 rfl rfl) wt_cm_least ⟨by decide, by decide, by decide +kernel⟩ (by decide) (ww_least_ok htr hE.2.2 hD hq hx) (by decide) rfl rfl (Nat.le_of_ble_eq_true rfl) (by omega) wld_914 (fun w5 => ?_)
  refine wt_o_istore hE [some (.ref b), some (.ref (wt_ad (wt_xw X) 0)), some (.ref (wt_ad (wt_xw X) 108)), some (.ref o), some (.int i), some (.int w5), none] wld_917 (by decide) rfl ?_
  refine wt_o_aload_n hE wld_919 rfl ?_
  refine wt_o_aload_n hE wld_920 rfl ?_
  refine wt_o_iload hE wld_921 rfl ?_
  refine wt_o_iconst hE (1 : Int32) wld_923 (by decide) ?_
  refine wt_o_iadd hE wld_924 ?_
  refine wt_o_sld hE hX (hi 1 (by decide)) wld_925 ?_
  refine wt_o_aload_n hE wld_926 rfl ?_
  refine wt_o_iload hE wld_927 rfl ?_
  refine wt_o_iconst hE (2 : Int32) wld_929 (by decide) ?_
  refine wt_o_iadd hE wld_930 ?_
  refine wt_o_sld hE hX (hi 2 (by decide)) wld_931 ?_
  refine wt_o_aload_n hE wld_932 rfl ?_
  refine wt_o_iload hE wld_933 rfl ?_
  refine wt_o_iconst hE (3 : Int32) wld_935 (by decide) ?_
  refine wt_o_iadd hE wld_936 ?_
  refine wt_o_sld hE hX (hi 3 (by decide)) wld_937 ?_
  refine wt_o_callVi (dd := 2) hE [.int (xs (i + (1 : Int32)).toNatClampNeg), .int (xs (i + (2 : Int32)).toNatClampNeg), .int (xs (i + (3 : Int32)).toNatClampNeg)] wt_lm_lw_178 wt_ya_md_least (wp_md_least_ok hM hr) (by decide) (hM 108 (by decide) (by decide)) wt_L108 rfl rfl rfl (Nat.le_of_ble_eq_true rfl) (by omega) wld_938 ?_
  refine wt_o_istore hE [some (.ref b), some (.ref (wt_ad (wt_xw X) 0)), some (.ref (wt_ad (wt_xw X) 108)), some (.ref o), some (.int i), some (.int w5), some (.int r.1)] wld_941 (by decide) rfl ?_
  refine wt_o_goto hE 1427 wld_943 rfl ?_
  exact wt_o_wk [true, true, true, true, true, false, false] rfl (kn _ hI)
theorem wld_946 : decode code 946 = .ok (.aload_n 1, 1) := by decide +kernel
theorem wld_947 : decode code 947 = .ok (.aload_n 0, 1) := by decide +kernel
theorem wld_948 : decode code 948 = .ok (.iload 4, 2) := by decide +kernel
theorem wld_950 : decode code 950 = .ok (.iconst 1, 1) := by decide +kernel
theorem wld_951 : decode code 951 = .ok (.iadd, 1) := by decide +kernel
theorem wld_952 : decode code 952 = .ok (.iaload, 1) := by decide +kernel
theorem wld_953 : decode code 953 = .ok (.aload_n 0, 1) := by decide +kernel
theorem wld_954 : decode code 954 = .ok (.iload 4, 2) := by decide +kernel
theorem wld_956 : decode code 956 = .ok (.iconst 2, 1) := by decide +kernel
theorem wld_957 : decode code 957 = .ok (.iadd, 1) := by decide +kernel
theorem wld_958 : decode code 958 = .ok (.iaload, 1) := by decide +kernel
theorem wld_959 : decode code 959 = .ok (.aload_n 0, 1) := by decide +kernel
theorem wld_960 : decode code 960 = .ok (.iload 4, 2) := by decide +kernel
theorem wld_962 : decode code 962 = .ok (.iconst 3, 1) := by decide +kernel
theorem wld_963 : decode code 963 = .ok (.iadd, 1) := by decide +kernel
theorem wld_964 : decode code 964 = .ok (.iaload, 1) := by decide +kernel
theorem wld_965 : decode code 965 = .ok (.aload_n 0, 1) := by decide +kernel
theorem wld_966 : decode code 966 = .ok (.iload 4, 2) := by decide +kernel
theorem wld_968 : decode code 968 = .ok (.iconst 4, 1) := by decide +kernel
theorem wld_969 : decode code 969 = .ok (.iadd, 1) := by decide +kernel
theorem wld_970 : decode code 970 = .ok (.iaload, 1) := by decide +kernel
theorem wld_971 : decode code 971 = .ok (.aload_n 3, 1) := by decide +kernel
theorem wld_972 : decode code 972 = .ok (.invokestatic 179, 3) := by decide +kernel
theorem wld_975 : decode code 975 = .ok (.istore 5, 2) := by decide +kernel
theorem wld_977 : decode code 977 = .ok (.aload_n 2, 1) := by decide +kernel
theorem wld_978 : decode code 978 = .ok (.aload_n 0, 1) := by decide +kernel
theorem wld_979 : decode code 979 = .ok (.iload 4, 2) := by decide +kernel
theorem wld_981 : decode code 981 = .ok (.iconst 1, 1) := by decide +kernel
theorem wld_982 : decode code 982 = .ok (.iadd, 1) := by decide +kernel
theorem wld_983 : decode code 983 = .ok (.iaload, 1) := by decide +kernel
theorem wld_984 : decode code 984 = .ok (.aload_n 0, 1) := by decide +kernel
theorem wld_985 : decode code 985 = .ok (.iload 4, 2) := by decide +kernel
theorem wld_987 : decode code 987 = .ok (.iconst 2, 1) := by decide +kernel
theorem wld_988 : decode code 988 = .ok (.iadd, 1) := by decide +kernel
theorem wld_989 : decode code 989 = .ok (.iaload, 1) := by decide +kernel
theorem wld_990 : decode code 990 = .ok (.aload_n 0, 1) := by decide +kernel
theorem wld_991 : decode code 991 = .ok (.iload 4, 2) := by decide +kernel
theorem wld_993 : decode code 993 = .ok (.iconst 3, 1) := by decide +kernel
theorem wld_994 : decode code 994 = .ok (.iadd, 1) := by decide +kernel
theorem wld_995 : decode code 995 = .ok (.iaload, 1) := by decide +kernel
theorem wld_996 : decode code 996 = .ok (.aload_n 0, 1) := by decide +kernel
theorem wld_997 : decode code 997 = .ok (.iload 4, 2) := by decide +kernel
theorem wld_999 : decode code 999 = .ok (.iconst 4, 1) := by decide +kernel
theorem wld_1000 : decode code 1000 = .ok (.iadd, 1) := by decide +kernel
theorem wld_1001 : decode code 1001 = .ok (.iaload, 1) := by decide +kernel
theorem wld_1002 : decode code 1002 = .ok (.invokevirtual 182, 3) := by decide +kernel
theorem wld_1005 : decode code 1005 = .ok (.istore 6, 2) := by decide +kernel
theorem wld_1007 : decode code 1007 = .ok (.goto 420, 3) := by decide +kernel
set_option maxRecDepth 100000 in
set_option maxHeartbeats 4000000 in
theorem wl_fitting {X : wt_X} {o b L : Nat} {xs : Nat → Int32} {n K : Nat} {Inv : wt_St → Prop} {i : Int32} (hE : wt_OkO X o code 7 "WornTypeLaw" 400 100000) (hdm : ∀ i, wt_dom (wt_xw X) i ↔ i < 321) (hSN : wt_SN (wt_Ao (wt_xw X) o (wt_xs X).heap.size) (wt_xs X) (wt_xs X).heap) (htr : (wt_xl X).stackTraces = false) (hX : wt_scr X o b L xs) (hi : ∀ c : Int32, c = 1 ∨ c = 2 ∨ c = 3 ∨ c = 4 ∨ c = 5 → vp_in (i + c) L) (hK : K + 8 ≤ 100000) (hP : wt_P_fitting n Inv) {σ : wt_St} (hσ : Inv σ) (kn : ∀ τ : wt_St, Inv τ → wt_O X o (K + 8) τ 1427 [some (.ref b), some (.ref (wt_ad (wt_xw X) 0)), some (.ref (wt_ad (wt_xw X) 108)), some (.ref o), some (.int i), none, none] []) : wt_O X o K σ 946 [some (.ref b), some (.ref (wt_ad (wt_xw X) 0)), some (.ref (wt_ad (wt_xw X) 108)), some (.ref o), some (.int i), none, none] [] := by
  have hD : ∀ i, i < 108 → wt_dom (wt_xw X) i := fun i hi => (hdm i).mpr (by omega)
  have hM : ∀ i, 108 ≤ i → i < 321 → wt_dom (wt_xw X) i := fun i _ hi => (hdm i).mpr hi
  obtain ⟨q, hq, hx, r, hr, hI⟩ := hP _ (xs (i + (1 : Int32)).toNatClampNeg) (xs (i + (2 : Int32)).toNatClampNeg) (xs (i + (3 : Int32)).toNatClampNeg) (xs (i + (4 : Int32)).toNatClampNeg) hσ
  refine wt_o_aload_n hE wld_946 rfl ?_
  refine wt_o_aload_n hE wld_947 rfl ?_
  refine wt_o_iload hE wld_948 rfl ?_
  refine wt_o_iconst hE (1 : Int32) wld_950 (by decide) ?_
  refine wt_o_iadd hE wld_951 ?_
  refine wt_o_sld hE hX (hi 1 (by decide)) wld_952 ?_
  refine wt_o_aload_n hE wld_953 rfl ?_
  refine wt_o_iload hE wld_954 rfl ?_
  refine wt_o_iconst hE (2 : Int32) wld_956 (by decide) ?_
  refine wt_o_iadd hE wld_957 ?_
  refine wt_o_sld hE hX (hi 2 (by decide)) wld_958 ?_
  refine wt_o_aload_n hE wld_959 rfl ?_
  refine wt_o_iload hE wld_960 rfl ?_
  refine wt_o_iconst hE (3 : Int32) wld_962 (by decide) ?_
  refine wt_o_iadd hE wld_963 ?_
  refine wt_o_sld hE hX (hi 3 (by decide)) wld_964 ?_
  refine wt_o_aload_n hE wld_965 rfl ?_
  refine wt_o_iload hE wld_966 rfl ?_
  refine wt_o_iconst hE (4 : Int32) wld_968 (by decide) ?_
  refine wt_o_iadd hE wld_969 ?_
  refine wt_o_sld hE hX (hi 4 (by decide)) wld_970 ?_
  refine wt_o_aload_n hE wld_971 rfl ?_
  refine wt_o_callW hE hSN (k := 6) (dd := 22) (mc := 8) [.ref (wt_ad (wt_xw X) 0), .int (xs (i + (1 : Int32)).toNatClampNeg), .int (xs (i + (2 : Int32)).toNatClampNeg), .int (xs (i + (3 : Int32)).toNatClampNeg), .int (xs (i + (4 : Int32)).toNatClampNeg), .ref o] (wt_g5 218 rfl rfl) (wt_g5 219 rfl rfl) (wt_g1 0 rfl rfl) wt_cm_fitting ⟨by decide, by decide, by decide +kernel⟩ (by decide) (ww_fitting_ok htr hE.2.2 hD hq hx) (by decide) rfl rfl (Nat.le_of_ble_eq_true rfl) (by omega) wld_972 (fun w5 => ?_)
  refine wt_o_istore hE [some (.ref b), some (.ref (wt_ad (wt_xw X) 0)), some (.ref (wt_ad (wt_xw X) 108)), some (.ref o), some (.int i), some (.int w5), none] wld_975 (by decide) rfl ?_
  refine wt_o_aload_n hE wld_977 rfl ?_
  refine wt_o_aload_n hE wld_978 rfl ?_
  refine wt_o_iload hE wld_979 rfl ?_
  refine wt_o_iconst hE (1 : Int32) wld_981 (by decide) ?_
  refine wt_o_iadd hE wld_982 ?_
  refine wt_o_sld hE hX (hi 1 (by decide)) wld_983 ?_
  refine wt_o_aload_n hE wld_984 rfl ?_
  refine wt_o_iload hE wld_985 rfl ?_
  refine wt_o_iconst hE (2 : Int32) wld_987 (by decide) ?_
  refine wt_o_iadd hE wld_988 ?_
  refine wt_o_sld hE hX (hi 2 (by decide)) wld_989 ?_
  refine wt_o_aload_n hE wld_990 rfl ?_
  refine wt_o_iload hE wld_991 rfl ?_
  refine wt_o_iconst hE (3 : Int32) wld_993 (by decide) ?_
  refine wt_o_iadd hE wld_994 ?_
  refine wt_o_sld hE hX (hi 3 (by decide)) wld_995 ?_
  refine wt_o_aload_n hE wld_996 rfl ?_
  refine wt_o_iload hE wld_997 rfl ?_
  refine wt_o_iconst hE (4 : Int32) wld_999 (by decide) ?_
  refine wt_o_iadd hE wld_1000 ?_
  refine wt_o_sld hE hX (hi 4 (by decide)) wld_1001 ?_
  refine wt_o_callVi (dd := 20) hE [.int (xs (i + (1 : Int32)).toNatClampNeg), .int (xs (i + (2 : Int32)).toNatClampNeg), .int (xs (i + (3 : Int32)).toNatClampNeg), .int (xs (i + (4 : Int32)).toNatClampNeg)] wt_lm_lw_182 wt_ya_md_fitting (wp_md_fitting_ok hM hr) (by decide) (hM 108 (by decide) (by decide)) wt_L108 rfl rfl rfl (Nat.le_of_ble_eq_true rfl) (by omega) wld_1002 ?_
  refine wt_o_istore hE [some (.ref b), some (.ref (wt_ad (wt_xw X) 0)), some (.ref (wt_ad (wt_xw X) 108)), some (.ref o), some (.int i), some (.int w5), some (.int r.1)] wld_1005 (by decide) rfl ?_
  refine wt_o_goto hE 1427 wld_1007 rfl ?_
  exact wt_o_wk [true, true, true, true, true, false, false] rfl (kn _ hI)
theorem wld_1010 : decode code 1010 = .ok (.aload_n 1, 1) := by decide +kernel
theorem wld_1011 : decode code 1011 = .ok (.aload_n 0, 1) := by decide +kernel
theorem wld_1012 : decode code 1012 = .ok (.iload 4, 2) := by decide +kernel
theorem wld_1014 : decode code 1014 = .ok (.iconst 1, 1) := by decide +kernel
theorem wld_1015 : decode code 1015 = .ok (.iadd, 1) := by decide +kernel
theorem wld_1016 : decode code 1016 = .ok (.iaload, 1) := by decide +kernel
theorem wld_1017 : decode code 1017 = .ok (.aload_n 3, 1) := by decide +kernel
theorem wld_1018 : decode code 1018 = .ok (.invokestatic 183, 3) := by decide +kernel
theorem wld_1021 : decode code 1021 = .ok (.istore 5, 2) := by decide +kernel
theorem wld_1023 : decode code 1023 = .ok (.aload_n 2, 1) := by decide +kernel
theorem wld_1024 : decode code 1024 = .ok (.aload_n 0, 1) := by decide +kernel
theorem wld_1025 : decode code 1025 = .ok (.iload 4, 2) := by decide +kernel
theorem wld_1027 : decode code 1027 = .ok (.iconst 1, 1) := by decide +kernel
theorem wld_1028 : decode code 1028 = .ok (.iadd, 1) := by decide +kernel
theorem wld_1029 : decode code 1029 = .ok (.iaload, 1) := by decide +kernel
theorem wld_1030 : decode code 1030 = .ok (.invokevirtual 185, 3) := by decide +kernel
theorem wld_1033 : decode code 1033 = .ok (.istore 6, 2) := by decide +kernel
theorem wld_1035 : decode code 1035 = .ok (.goto 392, 3) := by decide +kernel
set_option maxRecDepth 100000 in
set_option maxHeartbeats 4000000 in
theorem wl_wordings {X : wt_X} {o b L : Nat} {xs : Nat → Int32} {n K : Nat} {Inv : wt_St → Prop} {i : Int32} (hE : wt_OkO X o code 7 "WornTypeLaw" 400 100000) (hdm : ∀ i, wt_dom (wt_xw X) i ↔ i < 321) (hSN : wt_SN (wt_Ao (wt_xw X) o (wt_xs X).heap.size) (wt_xs X) (wt_xs X).heap) (htr : (wt_xl X).stackTraces = false) (hX : wt_scr X o b L xs) (hi : ∀ c : Int32, c = 1 ∨ c = 2 ∨ c = 3 ∨ c = 4 ∨ c = 5 → vp_in (i + c) L) (hK : K + 8 ≤ 100000) (hP : wt_P_wordings n Inv) {σ : wt_St} (hσ : Inv σ) (kn : ∀ τ : wt_St, Inv τ → wt_O X o (K + 8) τ 1427 [some (.ref b), some (.ref (wt_ad (wt_xw X) 0)), some (.ref (wt_ad (wt_xw X) 108)), some (.ref o), some (.int i), none, none] []) : wt_O X o K σ 1010 [some (.ref b), some (.ref (wt_ad (wt_xw X) 0)), some (.ref (wt_ad (wt_xw X) 108)), some (.ref o), some (.int i), none, none] [] := by
  have hD : ∀ i, i < 108 → wt_dom (wt_xw X) i := fun i hi => (hdm i).mpr (by omega)
  have hM : ∀ i, 108 ≤ i → i < 321 → wt_dom (wt_xw X) i := fun i _ hi => (hdm i).mpr hi
  obtain ⟨q, hq, hx, r, hr, hI⟩ := hP _ (xs (i + (1 : Int32)).toNatClampNeg) hσ
  refine wt_o_aload_n hE wld_1010 rfl ?_
  refine wt_o_aload_n hE wld_1011 rfl ?_
  refine wt_o_iload hE wld_1012 rfl ?_
  refine wt_o_iconst hE (1 : Int32) wld_1014 (by decide) ?_
  refine wt_o_iadd hE wld_1015 ?_
  refine wt_o_sld hE hX (hi 1 (by decide)) wld_1016 ?_
  refine wt_o_aload_n hE wld_1017 rfl ?_
  refine wt_o_callW hE hSN (k := 3) (dd := 8) (mc := 8) [.ref (wt_ad (wt_xw X) 0), .int (xs (i + (1 : Int32)).toNatClampNeg), .ref o] (wt_g6 2 rfl rfl) (wt_g6 3 rfl rfl) (wt_g1 0 rfl rfl) wt_cm_wordings ⟨by decide, by decide, by decide +kernel⟩ (by decide) (ww_wordings_ok htr hE.2.2 hD hq hx) (by decide) rfl rfl (Nat.le_of_ble_eq_true rfl) (by omega) wld_1018 (fun w5 => ?_)
  refine wt_o_istore hE [some (.ref b), some (.ref (wt_ad (wt_xw X) 0)), some (.ref (wt_ad (wt_xw X) 108)), some (.ref o), some (.int i), some (.int w5), none] wld_1021 (by decide) rfl ?_
  refine wt_o_aload_n hE wld_1023 rfl ?_
  refine wt_o_aload_n hE wld_1024 rfl ?_
  refine wt_o_iload hE wld_1025 rfl ?_
  refine wt_o_iconst hE (1 : Int32) wld_1027 (by decide) ?_
  refine wt_o_iadd hE wld_1028 ?_
  refine wt_o_sld hE hX (hi 1 (by decide)) wld_1029 ?_
  refine wt_o_callVi (dd := 2) hE [.int (xs (i + (1 : Int32)).toNatClampNeg)] wt_lm_lw_185 wt_ya_md_wordings (wp_md_wordings_ok hM hr) (by decide) (hM 108 (by decide) (by decide)) wt_L108 rfl rfl rfl (Nat.le_of_ble_eq_true rfl) (by omega) wld_1030 ?_
  refine wt_o_istore hE [some (.ref b), some (.ref (wt_ad (wt_xw X) 0)), some (.ref (wt_ad (wt_xw X) 108)), some (.ref o), some (.int i), some (.int w5), some (.int r.1)] wld_1033 (by decide) rfl ?_
  refine wt_o_goto hE 1427 wld_1035 rfl ?_
  exact wt_o_wk [true, true, true, true, true, false, false] rfl (kn _ hI)
theorem wld_1038 : decode code 1038 = .ok (.aload_n 1, 1) := by decide +kernel
theorem wld_1039 : decode code 1039 = .ok (.aload_n 0, 1) := by decide +kernel
theorem wld_1040 : decode code 1040 = .ok (.iload 4, 2) := by decide +kernel
theorem wld_1042 : decode code 1042 = .ok (.iconst 1, 1) := by decide +kernel
theorem wld_1043 : decode code 1043 = .ok (.iadd, 1) := by decide +kernel
theorem wld_1044 : decode code 1044 = .ok (.iaload, 1) := by decide +kernel
theorem wld_1045 : decode code 1045 = .ok (.aload_n 0, 1) := by decide +kernel
theorem wld_1046 : decode code 1046 = .ok (.iload 4, 2) := by decide +kernel
theorem wld_1048 : decode code 1048 = .ok (.iconst 2, 1) := by decide +kernel
theorem wld_1049 : decode code 1049 = .ok (.iadd, 1) := by decide +kernel
theorem wld_1050 : decode code 1050 = .ok (.iaload, 1) := by decide +kernel
theorem wld_1051 : decode code 1051 = .ok (.aload_n 0, 1) := by decide +kernel
theorem wld_1052 : decode code 1052 = .ok (.iload 4, 2) := by decide +kernel
theorem wld_1054 : decode code 1054 = .ok (.iconst 3, 1) := by decide +kernel
theorem wld_1055 : decode code 1055 = .ok (.iadd, 1) := by decide +kernel
theorem wld_1056 : decode code 1056 = .ok (.iaload, 1) := by decide +kernel
theorem wld_1057 : decode code 1057 = .ok (.aload_n 0, 1) := by decide +kernel
theorem wld_1058 : decode code 1058 = .ok (.iload 4, 2) := by decide +kernel
theorem wld_1060 : decode code 1060 = .ok (.iconst 4, 1) := by decide +kernel
theorem wld_1061 : decode code 1061 = .ok (.iadd, 1) := by decide +kernel
theorem wld_1062 : decode code 1062 = .ok (.iaload, 1) := by decide +kernel
theorem wld_1063 : decode code 1063 = .ok (.aload_n 3, 1) := by decide +kernel
theorem wld_1064 : decode code 1064 = .ok (.invokestatic 186, 3) := by decide +kernel
theorem wld_1067 : decode code 1067 = .ok (.istore 5, 2) := by decide +kernel
theorem wld_1069 : decode code 1069 = .ok (.aload_n 2, 1) := by decide +kernel
theorem wld_1070 : decode code 1070 = .ok (.aload_n 0, 1) := by decide +kernel
theorem wld_1071 : decode code 1071 = .ok (.iload 4, 2) := by decide +kernel
theorem wld_1073 : decode code 1073 = .ok (.iconst 1, 1) := by decide +kernel
theorem wld_1074 : decode code 1074 = .ok (.iadd, 1) := by decide +kernel
theorem wld_1075 : decode code 1075 = .ok (.iaload, 1) := by decide +kernel
theorem wld_1076 : decode code 1076 = .ok (.aload_n 0, 1) := by decide +kernel
theorem wld_1077 : decode code 1077 = .ok (.iload 4, 2) := by decide +kernel
theorem wld_1079 : decode code 1079 = .ok (.iconst 2, 1) := by decide +kernel
theorem wld_1080 : decode code 1080 = .ok (.iadd, 1) := by decide +kernel
theorem wld_1081 : decode code 1081 = .ok (.iaload, 1) := by decide +kernel
theorem wld_1082 : decode code 1082 = .ok (.aload_n 0, 1) := by decide +kernel
theorem wld_1083 : decode code 1083 = .ok (.iload 4, 2) := by decide +kernel
theorem wld_1085 : decode code 1085 = .ok (.iconst 3, 1) := by decide +kernel
theorem wld_1086 : decode code 1086 = .ok (.iadd, 1) := by decide +kernel
theorem wld_1087 : decode code 1087 = .ok (.iaload, 1) := by decide +kernel
theorem wld_1088 : decode code 1088 = .ok (.aload_n 0, 1) := by decide +kernel
theorem wld_1089 : decode code 1089 = .ok (.iload 4, 2) := by decide +kernel
theorem wld_1091 : decode code 1091 = .ok (.iconst 4, 1) := by decide +kernel
theorem wld_1092 : decode code 1092 = .ok (.iadd, 1) := by decide +kernel
theorem wld_1093 : decode code 1093 = .ok (.iaload, 1) := by decide +kernel
theorem wld_1094 : decode code 1094 = .ok (.invokevirtual 188, 3) := by decide +kernel
theorem wld_1097 : decode code 1097 = .ok (.istore 6, 2) := by decide +kernel
theorem wld_1099 : decode code 1099 = .ok (.goto 328, 3) := by decide +kernel
set_option maxRecDepth 100000 in
set_option maxHeartbeats 4000000 in
theorem wl_want {X : wt_X} {o b L : Nat} {xs : Nat → Int32} {n K : Nat} {Inv : wt_St → Prop} {i : Int32} (hE : wt_OkO X o code 7 "WornTypeLaw" 400 100000) (hdm : ∀ i, wt_dom (wt_xw X) i ↔ i < 321) (hSN : wt_SN (wt_Ao (wt_xw X) o (wt_xs X).heap.size) (wt_xs X) (wt_xs X).heap) (htr : (wt_xl X).stackTraces = false) (hX : wt_scr X o b L xs) (hi : ∀ c : Int32, c = 1 ∨ c = 2 ∨ c = 3 ∨ c = 4 ∨ c = 5 → vp_in (i + c) L) (hK : K + 8 ≤ 100000) (hP : wt_P_want n Inv) {σ : wt_St} (hσ : Inv σ) (kn : ∀ τ : wt_St, Inv τ → wt_O X o (K + 8) τ 1427 [some (.ref b), some (.ref (wt_ad (wt_xw X) 0)), some (.ref (wt_ad (wt_xw X) 108)), some (.ref o), some (.int i), none, none] []) : wt_O X o K σ 1038 [some (.ref b), some (.ref (wt_ad (wt_xw X) 0)), some (.ref (wt_ad (wt_xw X) 108)), some (.ref o), some (.int i), none, none] [] := by
  have hD : ∀ i, i < 108 → wt_dom (wt_xw X) i := fun i hi => (hdm i).mpr (by omega)
  have hM : ∀ i, 108 ≤ i → i < 321 → wt_dom (wt_xw X) i := fun i _ hi => (hdm i).mpr hi
  obtain ⟨q, hq, hx, r, hr, hI⟩ := hP _ (xs (i + (1 : Int32)).toNatClampNeg) (xs (i + (2 : Int32)).toNatClampNeg) (xs (i + (3 : Int32)).toNatClampNeg) (xs (i + (4 : Int32)).toNatClampNeg) hσ
  refine wt_o_aload_n hE wld_1038 rfl ?_
  refine wt_o_aload_n hE wld_1039 rfl ?_
  refine wt_o_iload hE wld_1040 rfl ?_
  refine wt_o_iconst hE (1 : Int32) wld_1042 (by decide) ?_
  refine wt_o_iadd hE wld_1043 ?_
  refine wt_o_sld hE hX (hi 1 (by decide)) wld_1044 ?_
  refine wt_o_aload_n hE wld_1045 rfl ?_
  refine wt_o_iload hE wld_1046 rfl ?_
  refine wt_o_iconst hE (2 : Int32) wld_1048 (by decide) ?_
  refine wt_o_iadd hE wld_1049 ?_
  refine wt_o_sld hE hX (hi 2 (by decide)) wld_1050 ?_
  refine wt_o_aload_n hE wld_1051 rfl ?_
  refine wt_o_iload hE wld_1052 rfl ?_
  refine wt_o_iconst hE (3 : Int32) wld_1054 (by decide) ?_
  refine wt_o_iadd hE wld_1055 ?_
  refine wt_o_sld hE hX (hi 3 (by decide)) wld_1056 ?_
  refine wt_o_aload_n hE wld_1057 rfl ?_
  refine wt_o_iload hE wld_1058 rfl ?_
  refine wt_o_iconst hE (4 : Int32) wld_1060 (by decide) ?_
  refine wt_o_iadd hE wld_1061 ?_
  refine wt_o_sld hE hX (hi 4 (by decide)) wld_1062 ?_
  refine wt_o_aload_n hE wld_1063 rfl ?_
  refine wt_o_callW hE hSN (k := 6) (dd := 9) (mc := 8) [.ref (wt_ad (wt_xw X) 0), .int (xs (i + (1 : Int32)).toNatClampNeg), .int (xs (i + (2 : Int32)).toNatClampNeg), .int (xs (i + (3 : Int32)).toNatClampNeg), .int (xs (i + (4 : Int32)).toNatClampNeg), .ref o] (wt_g6 19 rfl rfl) (wt_g6 20 rfl rfl) (wt_g1 0 rfl rfl) wt_cm_want ⟨by decide, by decide, by decide +kernel⟩ (by decide) (ww_want_ok htr hE.2.2 hD hq hx) (by decide) rfl rfl (Nat.le_of_ble_eq_true rfl) (by omega) wld_1064 (fun w5 => ?_)
  refine wt_o_istore hE [some (.ref b), some (.ref (wt_ad (wt_xw X) 0)), some (.ref (wt_ad (wt_xw X) 108)), some (.ref o), some (.int i), some (.int w5), none] wld_1067 (by decide) rfl ?_
  refine wt_o_aload_n hE wld_1069 rfl ?_
  refine wt_o_aload_n hE wld_1070 rfl ?_
  refine wt_o_iload hE wld_1071 rfl ?_
  refine wt_o_iconst hE (1 : Int32) wld_1073 (by decide) ?_
  refine wt_o_iadd hE wld_1074 ?_
  refine wt_o_sld hE hX (hi 1 (by decide)) wld_1075 ?_
  refine wt_o_aload_n hE wld_1076 rfl ?_
  refine wt_o_iload hE wld_1077 rfl ?_
  refine wt_o_iconst hE (2 : Int32) wld_1079 (by decide) ?_
  refine wt_o_iadd hE wld_1080 ?_
  refine wt_o_sld hE hX (hi 2 (by decide)) wld_1081 ?_
  refine wt_o_aload_n hE wld_1082 rfl ?_
  refine wt_o_iload hE wld_1083 rfl ?_
  refine wt_o_iconst hE (3 : Int32) wld_1085 (by decide) ?_
  refine wt_o_iadd hE wld_1086 ?_
  refine wt_o_sld hE hX (hi 3 (by decide)) wld_1087 ?_
  refine wt_o_aload_n hE wld_1088 rfl ?_
  refine wt_o_iload hE wld_1089 rfl ?_
  refine wt_o_iconst hE (4 : Int32) wld_1091 (by decide) ?_
  refine wt_o_iadd hE wld_1092 ?_
  refine wt_o_sld hE hX (hi 4 (by decide)) wld_1093 ?_
  refine wt_o_callVi (dd := 2) hE [.int (xs (i + (1 : Int32)).toNatClampNeg), .int (xs (i + (2 : Int32)).toNatClampNeg), .int (xs (i + (3 : Int32)).toNatClampNeg), .int (xs (i + (4 : Int32)).toNatClampNeg)] wt_lm_lw_188 wt_ya_md_want (wp_md_want_ok hM hr) (by decide) (hM 108 (by decide) (by decide)) wt_L108 rfl rfl rfl (Nat.le_of_ble_eq_true rfl) (by omega) wld_1094 ?_
  refine wt_o_istore hE [some (.ref b), some (.ref (wt_ad (wt_xw X) 0)), some (.ref (wt_ad (wt_xw X) 108)), some (.ref o), some (.int i), some (.int w5), some (.int r.1)] wld_1097 (by decide) rfl ?_
  refine wt_o_goto hE 1427 wld_1099 rfl ?_
  exact wt_o_wk [true, true, true, true, true, false, false] rfl (kn _ hI)
theorem wld_1102 : decode code 1102 = .ok (.aload_n 1, 1) := by decide +kernel
theorem wld_1103 : decode code 1103 = .ok (.invokevirtual 189, 3) := by decide +kernel
theorem wld_1106 : decode code 1106 = .ok (.pop, 1) := by decide +kernel
theorem wld_1107 : decode code 1107 = .ok (.aload_n 2, 1) := by decide +kernel
theorem wld_1108 : decode code 1108 = .ok (.invokevirtual 192, 3) := by decide +kernel
theorem wld_1111 : decode code 1111 = .ok (.pop, 1) := by decide +kernel
theorem wld_1112 : decode code 1112 = .ok (.goto 315, 3) := by decide +kernel
set_option maxRecDepth 100000 in
set_option maxHeartbeats 4000000 in
theorem wl_forget {X : wt_X} {o b L : Nat} {xs : Nat → Int32} {n K : Nat} {Inv : wt_St → Prop} {i : Int32} (hE : wt_OkO X o code 7 "WornTypeLaw" 400 100000) (hdm : ∀ i, wt_dom (wt_xw X) i ↔ i < 321) (hSN : wt_SN (wt_Ao (wt_xw X) o (wt_xs X).heap.size) (wt_xs X) (wt_xs X).heap) (htr : (wt_xl X).stackTraces = false) (hX : wt_scr X o b L xs) (hi : ∀ c : Int32, c = 1 ∨ c = 2 ∨ c = 3 ∨ c = 4 ∨ c = 5 → vp_in (i + c) L) (hK : K + 8 ≤ 100000) (hP : wt_P_forget n Inv) {σ : wt_St} (hσ : Inv σ) (kn : ∀ τ : wt_St, Inv τ → wt_O X o (K + 8) τ 1427 [some (.ref b), some (.ref (wt_ad (wt_xw X) 0)), some (.ref (wt_ad (wt_xw X) 108)), some (.ref o), some (.int i), none, none] []) : wt_O X o K σ 1102 [some (.ref b), some (.ref (wt_ad (wt_xw X) 0)), some (.ref (wt_ad (wt_xw X) 108)), some (.ref o), some (.int i), none, none] [] := by
  have hD : ∀ i, i < 108 → wt_dom (wt_xw X) i := fun i hi => (hdm i).mpr (by omega)
  have hM : ∀ i, 108 ≤ i → i < 321 → wt_dom (wt_xw X) i := fun i _ hi => (hdm i).mpr hi
  obtain ⟨q, hq, r, hr, hI⟩ := hP _  hσ
  refine wt_o_aload_n hE wld_1102 rfl ?_
  refine wt_o_callVi (dd := 0) hE [] wt_lm_lw_189 wt_ya_ap_forget (wp_ap_forget_ok hD hq) (by decide) (hD 0 (by decide)) wt_L0 rfl rfl rfl (Nat.le_of_ble_eq_true rfl) (by omega) wld_1103 ?_
  refine wt_o_pop hE wld_1106 rfl ?_
  refine wt_o_aload_n hE wld_1107 rfl ?_
  refine wt_o_callVi (dd := 0) hE [] wt_lm_lw_192 wt_ya_md_forget (wp_md_forget_ok hM hr) (by decide) (hM 108 (by decide) (by decide)) wt_L108 rfl rfl rfl (Nat.le_of_ble_eq_true rfl) (by omega) wld_1108 ?_
  refine wt_o_pop hE wld_1111 rfl ?_
  refine wt_o_goto hE 1427 wld_1112 rfl ?_
  refine wt_o_kup (K' := K + 8) (by omega) ?_
  exact wt_o_wk [true, true, true, true, true, false, false] rfl (kn _ hI)
theorem wld_1115 : decode code 1115 = .ok (.aload_n 1, 1) := by decide +kernel
theorem wld_1116 : decode code 1116 = .ok (.aload_n 0, 1) := by decide +kernel
theorem wld_1117 : decode code 1117 = .ok (.iload 4, 2) := by decide +kernel
theorem wld_1119 : decode code 1119 = .ok (.iconst 1, 1) := by decide +kernel
theorem wld_1120 : decode code 1120 = .ok (.iadd, 1) := by decide +kernel
theorem wld_1121 : decode code 1121 = .ok (.iaload, 1) := by decide +kernel
theorem wld_1122 : decode code 1122 = .ok (.aload_n 3, 1) := by decide +kernel
theorem wld_1123 : decode code 1123 = .ok (.invokestatic 193, 3) := by decide +kernel
theorem wld_1126 : decode code 1126 = .ok (.istore 5, 2) := by decide +kernel
theorem wld_1128 : decode code 1128 = .ok (.aload_n 2, 1) := by decide +kernel
theorem wld_1129 : decode code 1129 = .ok (.aload_n 0, 1) := by decide +kernel
theorem wld_1130 : decode code 1130 = .ok (.iload 4, 2) := by decide +kernel
theorem wld_1132 : decode code 1132 = .ok (.iconst 1, 1) := by decide +kernel
theorem wld_1133 : decode code 1133 = .ok (.iadd, 1) := by decide +kernel
theorem wld_1134 : decode code 1134 = .ok (.iaload, 1) := by decide +kernel
theorem wld_1135 : decode code 1135 = .ok (.invokevirtual 195, 3) := by decide +kernel
theorem wld_1138 : decode code 1138 = .ok (.istore 6, 2) := by decide +kernel
theorem wld_1140 : decode code 1140 = .ok (.goto 287, 3) := by decide +kernel
set_option maxRecDepth 100000 in
set_option maxHeartbeats 4000000 in
theorem wl_most {X : wt_X} {o b L : Nat} {xs : Nat → Int32} {n K : Nat} {Inv : wt_St → Prop} {i : Int32} (hE : wt_OkO X o code 7 "WornTypeLaw" 400 100000) (hdm : ∀ i, wt_dom (wt_xw X) i ↔ i < 321) (hSN : wt_SN (wt_Ao (wt_xw X) o (wt_xs X).heap.size) (wt_xs X) (wt_xs X).heap) (htr : (wt_xl X).stackTraces = false) (hX : wt_scr X o b L xs) (hi : ∀ c : Int32, c = 1 ∨ c = 2 ∨ c = 3 ∨ c = 4 ∨ c = 5 → vp_in (i + c) L) (hK : K + 8 ≤ 100000) (hP : wt_P_most n Inv) {σ : wt_St} (hσ : Inv σ) (kn : ∀ τ : wt_St, Inv τ → wt_O X o (K + 8) τ 1427 [some (.ref b), some (.ref (wt_ad (wt_xw X) 0)), some (.ref (wt_ad (wt_xw X) 108)), some (.ref o), some (.int i), none, none] []) : wt_O X o K σ 1115 [some (.ref b), some (.ref (wt_ad (wt_xw X) 0)), some (.ref (wt_ad (wt_xw X) 108)), some (.ref o), some (.int i), none, none] [] := by
  have hD : ∀ i, i < 108 → wt_dom (wt_xw X) i := fun i hi => (hdm i).mpr (by omega)
  have hM : ∀ i, 108 ≤ i → i < 321 → wt_dom (wt_xw X) i := fun i _ hi => (hdm i).mpr hi
  obtain ⟨q, hq, hx, r, hr, hI⟩ := hP _ (xs (i + (1 : Int32)).toNatClampNeg) hσ
  refine wt_o_aload_n hE wld_1115 rfl ?_
  refine wt_o_aload_n hE wld_1116 rfl ?_
  refine wt_o_iload hE wld_1117 rfl ?_
  refine wt_o_iconst hE (1 : Int32) wld_1119 (by decide) ?_
  refine wt_o_iadd hE wld_1120 ?_
  refine wt_o_sld hE hX (hi 1 (by decide)) wld_1121 ?_
  refine wt_o_aload_n hE wld_1122 rfl ?_
  refine wt_o_callW hE hSN (k := 3) (dd := 24) (mc := 8) [.ref (wt_ad (wt_xw X) 0), .int (xs (i + (1 : Int32)).toNatClampNeg), .ref o] (wt_g6 30 rfl rfl) (wt_g6 31 rfl rfl) (wt_g1 0 rfl rfl) wt_cm_most ⟨by decide, by decide, by decide +kernel⟩ (by decide) (ww_most_ok htr hE.2.2 hD hq hx) (by decide) rfl rfl (Nat.le_of_ble_eq_true rfl) (by omega) wld_1123 (fun w5 => ?_)
  refine wt_o_istore hE [some (.ref b), some (.ref (wt_ad (wt_xw X) 0)), some (.ref (wt_ad (wt_xw X) 108)), some (.ref o), some (.int i), some (.int w5), none] wld_1126 (by decide) rfl ?_
  refine wt_o_aload_n hE wld_1128 rfl ?_
  refine wt_o_aload_n hE wld_1129 rfl ?_
  refine wt_o_iload hE wld_1130 rfl ?_
  refine wt_o_iconst hE (1 : Int32) wld_1132 (by decide) ?_
  refine wt_o_iadd hE wld_1133 ?_
  refine wt_o_sld hE hX (hi 1 (by decide)) wld_1134 ?_
  refine wt_o_callVi (dd := 6) hE [.int (xs (i + (1 : Int32)).toNatClampNeg)] wt_lm_lw_195 wt_ya_md_most (wp_md_most_ok hM hr) (by decide) (hM 108 (by decide) (by decide)) wt_L108 rfl rfl rfl (Nat.le_of_ble_eq_true rfl) (by omega) wld_1135 ?_
  refine wt_o_istore hE [some (.ref b), some (.ref (wt_ad (wt_xw X) 0)), some (.ref (wt_ad (wt_xw X) 108)), some (.ref o), some (.int i), some (.int w5), some (.int r.1)] wld_1138 (by decide) rfl ?_
  refine wt_o_goto hE 1427 wld_1140 rfl ?_
  exact wt_o_wk [true, true, true, true, true, false, false] rfl (kn _ hI)
theorem wld_1143 : decode code 1143 = .ok (.aload_n 1, 1) := by decide +kernel
theorem wld_1144 : decode code 1144 = .ok (.aload_n 0, 1) := by decide +kernel
theorem wld_1145 : decode code 1145 = .ok (.iload 4, 2) := by decide +kernel
theorem wld_1147 : decode code 1147 = .ok (.iconst 1, 1) := by decide +kernel
theorem wld_1148 : decode code 1148 = .ok (.iadd, 1) := by decide +kernel
theorem wld_1149 : decode code 1149 = .ok (.iaload, 1) := by decide +kernel
theorem wld_1150 : decode code 1150 = .ok (.aload_n 3, 1) := by decide +kernel
theorem wld_1151 : decode code 1151 = .ok (.invokestatic 196, 3) := by decide +kernel
theorem wld_1154 : decode code 1154 = .ok (.istore 5, 2) := by decide +kernel
theorem wld_1156 : decode code 1156 = .ok (.aload_n 2, 1) := by decide +kernel
theorem wld_1157 : decode code 1157 = .ok (.aload_n 0, 1) := by decide +kernel
theorem wld_1158 : decode code 1158 = .ok (.iload 4, 2) := by decide +kernel
theorem wld_1160 : decode code 1160 = .ok (.iconst 1, 1) := by decide +kernel
theorem wld_1161 : decode code 1161 = .ok (.iadd, 1) := by decide +kernel
theorem wld_1162 : decode code 1162 = .ok (.iaload, 1) := by decide +kernel
theorem wld_1163 : decode code 1163 = .ok (.invokevirtual 198, 3) := by decide +kernel
theorem wld_1166 : decode code 1166 = .ok (.istore 6, 2) := by decide +kernel
theorem wld_1168 : decode code 1168 = .ok (.goto 259, 3) := by decide +kernel
set_option maxRecDepth 100000 in
set_option maxHeartbeats 4000000 in
theorem wl_greedy {X : wt_X} {o b L : Nat} {xs : Nat → Int32} {n K : Nat} {Inv : wt_St → Prop} {i : Int32} (hE : wt_OkO X o code 7 "WornTypeLaw" 400 100000) (hdm : ∀ i, wt_dom (wt_xw X) i ↔ i < 321) (hSN : wt_SN (wt_Ao (wt_xw X) o (wt_xs X).heap.size) (wt_xs X) (wt_xs X).heap) (htr : (wt_xl X).stackTraces = false) (hX : wt_scr X o b L xs) (hi : ∀ c : Int32, c = 1 ∨ c = 2 ∨ c = 3 ∨ c = 4 ∨ c = 5 → vp_in (i + c) L) (hK : K + 8 ≤ 100000) (hP : wt_P_greedy n Inv) {σ : wt_St} (hσ : Inv σ) (kn : ∀ τ : wt_St, Inv τ → wt_O X o (K + 8) τ 1427 [some (.ref b), some (.ref (wt_ad (wt_xw X) 0)), some (.ref (wt_ad (wt_xw X) 108)), some (.ref o), some (.int i), none, none] []) : wt_O X o K σ 1143 [some (.ref b), some (.ref (wt_ad (wt_xw X) 0)), some (.ref (wt_ad (wt_xw X) 108)), some (.ref o), some (.int i), none, none] [] := by
  have hD : ∀ i, i < 108 → wt_dom (wt_xw X) i := fun i hi => (hdm i).mpr (by omega)
  have hM : ∀ i, 108 ≤ i → i < 321 → wt_dom (wt_xw X) i := fun i _ hi => (hdm i).mpr hi
  obtain ⟨q, hq, hx, r, hr, hI⟩ := hP _ (xs (i + (1 : Int32)).toNatClampNeg) hσ
  refine wt_o_aload_n hE wld_1143 rfl ?_
  refine wt_o_aload_n hE wld_1144 rfl ?_
  refine wt_o_iload hE wld_1145 rfl ?_
  refine wt_o_iconst hE (1 : Int32) wld_1147 (by decide) ?_
  refine wt_o_iadd hE wld_1148 ?_
  refine wt_o_sld hE hX (hi 1 (by decide)) wld_1149 ?_
  refine wt_o_aload_n hE wld_1150 rfl ?_
  refine wt_o_callW hE hSN (k := 3) (dd := 8) (mc := 8) [.ref (wt_ad (wt_xw X) 0), .int (xs (i + (1 : Int32)).toNatClampNeg), .ref o] (wt_g6 66 rfl rfl) (wt_g6 67 rfl rfl) (wt_g1 0 rfl rfl) wt_cm_greedy ⟨by decide, by decide, by decide +kernel⟩ (by decide) (ww_greedy_ok htr hE.2.2 hD hq hx) (by decide) rfl rfl (Nat.le_of_ble_eq_true rfl) (by omega) wld_1151 (fun w5 => ?_)
  refine wt_o_istore hE [some (.ref b), some (.ref (wt_ad (wt_xw X) 0)), some (.ref (wt_ad (wt_xw X) 108)), some (.ref o), some (.int i), some (.int w5), none] wld_1154 (by decide) rfl ?_
  refine wt_o_aload_n hE wld_1156 rfl ?_
  refine wt_o_aload_n hE wld_1157 rfl ?_
  refine wt_o_iload hE wld_1158 rfl ?_
  refine wt_o_iconst hE (1 : Int32) wld_1160 (by decide) ?_
  refine wt_o_iadd hE wld_1161 ?_
  refine wt_o_sld hE hX (hi 1 (by decide)) wld_1162 ?_
  refine wt_o_callVi (dd := 7) hE [.int (xs (i + (1 : Int32)).toNatClampNeg)] wt_lm_lw_198 wt_ya_md_greedy (wp_md_greedy_ok hM hr) (by decide) (hM 108 (by decide) (by decide)) wt_L108 rfl rfl rfl (Nat.le_of_ble_eq_true rfl) (by omega) wld_1163 ?_
  refine wt_o_istore hE [some (.ref b), some (.ref (wt_ad (wt_xw X) 0)), some (.ref (wt_ad (wt_xw X) 108)), some (.ref o), some (.int i), some (.int w5), some (.int r.1)] wld_1166 (by decide) rfl ?_
  refine wt_o_goto hE 1427 wld_1168 rfl ?_
  exact wt_o_wk [true, true, true, true, true, false, false] rfl (kn _ hI)
theorem wld_1171 : decode code 1171 = .ok (.aload_n 1, 1) := by decide +kernel
theorem wld_1172 : decode code 1172 = .ok (.invokevirtual 199, 3) := by decide +kernel
theorem wld_1175 : decode code 1175 = .ok (.pop, 1) := by decide +kernel
theorem wld_1176 : decode code 1176 = .ok (.aload_n 2, 1) := by decide +kernel
theorem wld_1177 : decode code 1177 = .ok (.invokevirtual 202, 3) := by decide +kernel
theorem wld_1180 : decode code 1180 = .ok (.pop, 1) := by decide +kernel
theorem wld_1181 : decode code 1181 = .ok (.goto 246, 3) := by decide +kernel
set_option maxRecDepth 100000 in
set_option maxHeartbeats 4000000 in
theorem wl_bound {X : wt_X} {o b L : Nat} {xs : Nat → Int32} {n K : Nat} {Inv : wt_St → Prop} {i : Int32} (hE : wt_OkO X o code 7 "WornTypeLaw" 400 100000) (hdm : ∀ i, wt_dom (wt_xw X) i ↔ i < 321) (hSN : wt_SN (wt_Ao (wt_xw X) o (wt_xs X).heap.size) (wt_xs X) (wt_xs X).heap) (htr : (wt_xl X).stackTraces = false) (hX : wt_scr X o b L xs) (hi : ∀ c : Int32, c = 1 ∨ c = 2 ∨ c = 3 ∨ c = 4 ∨ c = 5 → vp_in (i + c) L) (hK : K + 8 ≤ 100000) (hP : wt_P_bound n Inv) {σ : wt_St} (hσ : Inv σ) (kn : ∀ τ : wt_St, Inv τ → wt_O X o (K + 8) τ 1427 [some (.ref b), some (.ref (wt_ad (wt_xw X) 0)), some (.ref (wt_ad (wt_xw X) 108)), some (.ref o), some (.int i), none, none] []) : wt_O X o K σ 1171 [some (.ref b), some (.ref (wt_ad (wt_xw X) 0)), some (.ref (wt_ad (wt_xw X) 108)), some (.ref o), some (.int i), none, none] [] := by
  have hD : ∀ i, i < 108 → wt_dom (wt_xw X) i := fun i hi => (hdm i).mpr (by omega)
  have hM : ∀ i, 108 ≤ i → i < 321 → wt_dom (wt_xw X) i := fun i _ hi => (hdm i).mpr hi
  obtain ⟨q, hq, r, hr, hI⟩ := hP _  hσ
  refine wt_o_aload_n hE wld_1171 rfl ?_
  refine wt_o_callVi (dd := 6) hE [] wt_lm_lw_199 wt_ya_ap_bound (wp_ap_bound_ok hD hq) (by decide) (hD 0 (by decide)) wt_L0 rfl rfl rfl (Nat.le_of_ble_eq_true rfl) (by omega) wld_1172 ?_
  refine wt_o_pop hE wld_1175 rfl ?_
  refine wt_o_aload_n hE wld_1176 rfl ?_
  refine wt_o_callVi (dd := 3) hE [] wt_lm_lw_202 wt_ya_md_bound (wp_md_bound_ok hM hr) (by decide) (hM 108 (by decide) (by decide)) wt_L108 rfl rfl rfl (Nat.le_of_ble_eq_true rfl) (by omega) wld_1177 ?_
  refine wt_o_pop hE wld_1180 rfl ?_
  refine wt_o_goto hE 1427 wld_1181 rfl ?_
  refine wt_o_kup (K' := K + 8) (by omega) ?_
  exact wt_o_wk [true, true, true, true, true, false, false] rfl (kn _ hI)
theorem wld_1184 : decode code 1184 = .ok (.aload_n 1, 1) := by decide +kernel
theorem wld_1185 : decode code 1185 = .ok (.aload_n 0, 1) := by decide +kernel
theorem wld_1186 : decode code 1186 = .ok (.iload 4, 2) := by decide +kernel
theorem wld_1188 : decode code 1188 = .ok (.iconst 1, 1) := by decide +kernel
theorem wld_1189 : decode code 1189 = .ok (.iadd, 1) := by decide +kernel
theorem wld_1190 : decode code 1190 = .ok (.iaload, 1) := by decide +kernel
theorem wld_1191 : decode code 1191 = .ok (.aload_n 0, 1) := by decide +kernel
theorem wld_1192 : decode code 1192 = .ok (.iload 4, 2) := by decide +kernel
theorem wld_1194 : decode code 1194 = .ok (.iconst 2, 1) := by decide +kernel
theorem wld_1195 : decode code 1195 = .ok (.iadd, 1) := by decide +kernel
theorem wld_1196 : decode code 1196 = .ok (.iaload, 1) := by decide +kernel
theorem wld_1197 : decode code 1197 = .ok (.aload_n 3, 1) := by decide +kernel
theorem wld_1198 : decode code 1198 = .ok (.invokestatic 203, 3) := by decide +kernel
theorem wld_1201 : decode code 1201 = .ok (.istore 5, 2) := by decide +kernel
theorem wld_1203 : decode code 1203 = .ok (.aload_n 2, 1) := by decide +kernel
theorem wld_1204 : decode code 1204 = .ok (.aload_n 0, 1) := by decide +kernel
theorem wld_1205 : decode code 1205 = .ok (.iload 4, 2) := by decide +kernel
theorem wld_1207 : decode code 1207 = .ok (.iconst 1, 1) := by decide +kernel
theorem wld_1208 : decode code 1208 = .ok (.iadd, 1) := by decide +kernel
theorem wld_1209 : decode code 1209 = .ok (.iaload, 1) := by decide +kernel
theorem wld_1210 : decode code 1210 = .ok (.aload_n 0, 1) := by decide +kernel
theorem wld_1211 : decode code 1211 = .ok (.iload 4, 2) := by decide +kernel
theorem wld_1213 : decode code 1213 = .ok (.iconst 2, 1) := by decide +kernel
theorem wld_1214 : decode code 1214 = .ok (.iadd, 1) := by decide +kernel
theorem wld_1215 : decode code 1215 = .ok (.iaload, 1) := by decide +kernel
theorem wld_1216 : decode code 1216 = .ok (.invokevirtual 205, 3) := by decide +kernel
theorem wld_1219 : decode code 1219 = .ok (.istore 6, 2) := by decide +kernel
theorem wld_1221 : decode code 1221 = .ok (.goto 206, 3) := by decide +kernel
set_option maxRecDepth 100000 in
set_option maxHeartbeats 4000000 in
theorem wl_said {X : wt_X} {o b L : Nat} {xs : Nat → Int32} {n K : Nat} {Inv : wt_St → Prop} {i : Int32} (hE : wt_OkO X o code 7 "WornTypeLaw" 400 100000) (hdm : ∀ i, wt_dom (wt_xw X) i ↔ i < 321) (hSN : wt_SN (wt_Ao (wt_xw X) o (wt_xs X).heap.size) (wt_xs X) (wt_xs X).heap) (htr : (wt_xl X).stackTraces = false) (hX : wt_scr X o b L xs) (hi : ∀ c : Int32, c = 1 ∨ c = 2 ∨ c = 3 ∨ c = 4 ∨ c = 5 → vp_in (i + c) L) (hK : K + 8 ≤ 100000) (hP : wt_P_said n Inv) {σ : wt_St} (hσ : Inv σ) (kn : ∀ τ : wt_St, Inv τ → wt_O X o (K + 8) τ 1427 [some (.ref b), some (.ref (wt_ad (wt_xw X) 0)), some (.ref (wt_ad (wt_xw X) 108)), some (.ref o), some (.int i), none, none] []) : wt_O X o K σ 1184 [some (.ref b), some (.ref (wt_ad (wt_xw X) 0)), some (.ref (wt_ad (wt_xw X) 108)), some (.ref o), some (.int i), none, none] [] := by
  have hD : ∀ i, i < 108 → wt_dom (wt_xw X) i := fun i hi => (hdm i).mpr (by omega)
  have hM : ∀ i, 108 ≤ i → i < 321 → wt_dom (wt_xw X) i := fun i _ hi => (hdm i).mpr hi
  obtain ⟨q, hq, hx, r, hr, hI⟩ := hP _ (xs (i + (1 : Int32)).toNatClampNeg) (xs (i + (2 : Int32)).toNatClampNeg) hσ
  refine wt_o_aload_n hE wld_1184 rfl ?_
  refine wt_o_aload_n hE wld_1185 rfl ?_
  refine wt_o_iload hE wld_1186 rfl ?_
  refine wt_o_iconst hE (1 : Int32) wld_1188 (by decide) ?_
  refine wt_o_iadd hE wld_1189 ?_
  refine wt_o_sld hE hX (hi 1 (by decide)) wld_1190 ?_
  refine wt_o_aload_n hE wld_1191 rfl ?_
  refine wt_o_iload hE wld_1192 rfl ?_
  refine wt_o_iconst hE (2 : Int32) wld_1194 (by decide) ?_
  refine wt_o_iadd hE wld_1195 ?_
  refine wt_o_sld hE hX (hi 2 (by decide)) wld_1196 ?_
  refine wt_o_aload_n hE wld_1197 rfl ?_
  refine wt_o_callW hE hSN (k := 4) (dd := 8) (mc := 8) [.ref (wt_ad (wt_xw X) 0), .int (xs (i + (1 : Int32)).toNatClampNeg), .int (xs (i + (2 : Int32)).toNatClampNeg), .ref o] (wt_g6 85 rfl rfl) (wt_g6 86 rfl rfl) (wt_g1 0 rfl rfl) wt_cm_said ⟨by decide, by decide, by decide +kernel⟩ (by decide) (ww_said_ok htr hE.2.2 hD hq hx) (by decide) rfl rfl (Nat.le_of_ble_eq_true rfl) (by omega) wld_1198 (fun w5 => ?_)
  refine wt_o_istore hE [some (.ref b), some (.ref (wt_ad (wt_xw X) 0)), some (.ref (wt_ad (wt_xw X) 108)), some (.ref o), some (.int i), some (.int w5), none] wld_1201 (by decide) rfl ?_
  refine wt_o_aload_n hE wld_1203 rfl ?_
  refine wt_o_aload_n hE wld_1204 rfl ?_
  refine wt_o_iload hE wld_1205 rfl ?_
  refine wt_o_iconst hE (1 : Int32) wld_1207 (by decide) ?_
  refine wt_o_iadd hE wld_1208 ?_
  refine wt_o_sld hE hX (hi 1 (by decide)) wld_1209 ?_
  refine wt_o_aload_n hE wld_1210 rfl ?_
  refine wt_o_iload hE wld_1211 rfl ?_
  refine wt_o_iconst hE (2 : Int32) wld_1213 (by decide) ?_
  refine wt_o_iadd hE wld_1214 ?_
  refine wt_o_sld hE hX (hi 2 (by decide)) wld_1215 ?_
  refine wt_o_callVi (dd := 7) hE [.int (xs (i + (1 : Int32)).toNatClampNeg), .int (xs (i + (2 : Int32)).toNatClampNeg)] wt_lm_lw_205 wt_ya_md_said (wp_md_said_ok hM hr) (by decide) (hM 108 (by decide) (by decide)) wt_L108 rfl rfl rfl (Nat.le_of_ble_eq_true rfl) (by omega) wld_1216 ?_
  refine wt_o_istore hE [some (.ref b), some (.ref (wt_ad (wt_xw X) 0)), some (.ref (wt_ad (wt_xw X) 108)), some (.ref o), some (.int i), some (.int w5), some (.int r.1)] wld_1219 (by decide) rfl ?_
  refine wt_o_goto hE 1427 wld_1221 rfl ?_
  exact wt_o_wk [true, true, true, true, true, false, false] rfl (kn _ hI)
theorem wld_1224 : decode code 1224 = .ok (.aload_n 1, 1) := by decide +kernel
theorem wld_1225 : decode code 1225 = .ok (.aload_n 0, 1) := by decide +kernel
theorem wld_1226 : decode code 1226 = .ok (.iload 4, 2) := by decide +kernel
theorem wld_1228 : decode code 1228 = .ok (.iconst 1, 1) := by decide +kernel
theorem wld_1229 : decode code 1229 = .ok (.iadd, 1) := by decide +kernel
theorem wld_1230 : decode code 1230 = .ok (.iaload, 1) := by decide +kernel
theorem wld_1231 : decode code 1231 = .ok (.aload_n 3, 1) := by decide +kernel
theorem wld_1232 : decode code 1232 = .ok (.invokestatic 206, 3) := by decide +kernel
theorem wld_1235 : decode code 1235 = .ok (.istore 5, 2) := by decide +kernel
theorem wld_1237 : decode code 1237 = .ok (.aload_n 2, 1) := by decide +kernel
theorem wld_1238 : decode code 1238 = .ok (.aload_n 0, 1) := by decide +kernel
theorem wld_1239 : decode code 1239 = .ok (.iload 4, 2) := by decide +kernel
theorem wld_1241 : decode code 1241 = .ok (.iconst 1, 1) := by decide +kernel
theorem wld_1242 : decode code 1242 = .ok (.iadd, 1) := by decide +kernel
theorem wld_1243 : decode code 1243 = .ok (.iaload, 1) := by decide +kernel
theorem wld_1244 : decode code 1244 = .ok (.invokevirtual 208, 3) := by decide +kernel
theorem wld_1247 : decode code 1247 = .ok (.istore 6, 2) := by decide +kernel
theorem wld_1249 : decode code 1249 = .ok (.goto 178, 3) := by decide +kernel
set_option maxRecDepth 100000 in
set_option maxHeartbeats 4000000 in
theorem wl_lost {X : wt_X} {o b L : Nat} {xs : Nat → Int32} {n K : Nat} {Inv : wt_St → Prop} {i : Int32} (hE : wt_OkO X o code 7 "WornTypeLaw" 400 100000) (hdm : ∀ i, wt_dom (wt_xw X) i ↔ i < 321) (hSN : wt_SN (wt_Ao (wt_xw X) o (wt_xs X).heap.size) (wt_xs X) (wt_xs X).heap) (htr : (wt_xl X).stackTraces = false) (hX : wt_scr X o b L xs) (hi : ∀ c : Int32, c = 1 ∨ c = 2 ∨ c = 3 ∨ c = 4 ∨ c = 5 → vp_in (i + c) L) (hK : K + 8 ≤ 100000) (hP : wt_P_lost n Inv) {σ : wt_St} (hσ : Inv σ) (kn : ∀ τ : wt_St, Inv τ → wt_O X o (K + 8) τ 1427 [some (.ref b), some (.ref (wt_ad (wt_xw X) 0)), some (.ref (wt_ad (wt_xw X) 108)), some (.ref o), some (.int i), none, none] []) : wt_O X o K σ 1224 [some (.ref b), some (.ref (wt_ad (wt_xw X) 0)), some (.ref (wt_ad (wt_xw X) 108)), some (.ref o), some (.int i), none, none] [] := by
  have hD : ∀ i, i < 108 → wt_dom (wt_xw X) i := fun i hi => (hdm i).mpr (by omega)
  have hM : ∀ i, 108 ≤ i → i < 321 → wt_dom (wt_xw X) i := fun i _ hi => (hdm i).mpr hi
  obtain ⟨q, hq, hx, r, hr, hI⟩ := hP _ (xs (i + (1 : Int32)).toNatClampNeg) hσ
  refine wt_o_aload_n hE wld_1224 rfl ?_
  refine wt_o_aload_n hE wld_1225 rfl ?_
  refine wt_o_iload hE wld_1226 rfl ?_
  refine wt_o_iconst hE (1 : Int32) wld_1228 (by decide) ?_
  refine wt_o_iadd hE wld_1229 ?_
  refine wt_o_sld hE hX (hi 1 (by decide)) wld_1230 ?_
  refine wt_o_aload_n hE wld_1231 rfl ?_
  refine wt_o_callW hE hSN (k := 3) (dd := 8) (mc := 8) [.ref (wt_ad (wt_xw X) 0), .int (xs (i + (1 : Int32)).toNatClampNeg), .ref o] (wt_g6 98 rfl rfl) (wt_g6 99 rfl rfl) (wt_g1 0 rfl rfl) wt_cm_lost ⟨by decide, by decide, by decide +kernel⟩ (by decide) (ww_lost_ok htr hE.2.2 hD hq hx) (by decide) rfl rfl (Nat.le_of_ble_eq_true rfl) (by omega) wld_1232 (fun w5 => ?_)
  refine wt_o_istore hE [some (.ref b), some (.ref (wt_ad (wt_xw X) 0)), some (.ref (wt_ad (wt_xw X) 108)), some (.ref o), some (.int i), some (.int w5), none] wld_1235 (by decide) rfl ?_
  refine wt_o_aload_n hE wld_1237 rfl ?_
  refine wt_o_aload_n hE wld_1238 rfl ?_
  refine wt_o_iload hE wld_1239 rfl ?_
  refine wt_o_iconst hE (1 : Int32) wld_1241 (by decide) ?_
  refine wt_o_iadd hE wld_1242 ?_
  refine wt_o_sld hE hX (hi 1 (by decide)) wld_1243 ?_
  refine wt_o_callVi (dd := 7) hE [.int (xs (i + (1 : Int32)).toNatClampNeg)] wt_lm_lw_208 wt_ya_md_lost (wp_md_lost_ok hM hr) (by decide) (hM 108 (by decide) (by decide)) wt_L108 rfl rfl rfl (Nat.le_of_ble_eq_true rfl) (by omega) wld_1244 ?_
  refine wt_o_istore hE [some (.ref b), some (.ref (wt_ad (wt_xw X) 0)), some (.ref (wt_ad (wt_xw X) 108)), some (.ref o), some (.int i), some (.int w5), some (.int r.1)] wld_1247 (by decide) rfl ?_
  refine wt_o_goto hE 1427 wld_1249 rfl ?_
  exact wt_o_wk [true, true, true, true, true, false, false] rfl (kn _ hI)
theorem wld_1252 : decode code 1252 = .ok (.aload_n 1, 1) := by decide +kernel
theorem wld_1253 : decode code 1253 = .ok (.aload_n 0, 1) := by decide +kernel
theorem wld_1254 : decode code 1254 = .ok (.iload 4, 2) := by decide +kernel
theorem wld_1256 : decode code 1256 = .ok (.iconst 1, 1) := by decide +kernel
theorem wld_1257 : decode code 1257 = .ok (.iadd, 1) := by decide +kernel
theorem wld_1258 : decode code 1258 = .ok (.iaload, 1) := by decide +kernel
theorem wld_1259 : decode code 1259 = .ok (.aload_n 3, 1) := by decide +kernel
theorem wld_1260 : decode code 1260 = .ok (.invokestatic 209, 3) := by decide +kernel
theorem wld_1263 : decode code 1263 = .ok (.istore 5, 2) := by decide +kernel
theorem wld_1265 : decode code 1265 = .ok (.aload_n 2, 1) := by decide +kernel
theorem wld_1266 : decode code 1266 = .ok (.aload_n 0, 1) := by decide +kernel
theorem wld_1267 : decode code 1267 = .ok (.iload 4, 2) := by decide +kernel
theorem wld_1269 : decode code 1269 = .ok (.iconst 1, 1) := by decide +kernel
theorem wld_1270 : decode code 1270 = .ok (.iadd, 1) := by decide +kernel
theorem wld_1271 : decode code 1271 = .ok (.iaload, 1) := by decide +kernel
theorem wld_1272 : decode code 1272 = .ok (.invokevirtual 211, 3) := by decide +kernel
theorem wld_1275 : decode code 1275 = .ok (.istore 6, 2) := by decide +kernel
theorem wld_1277 : decode code 1277 = .ok (.goto 150, 3) := by decide +kernel
set_option maxRecDepth 100000 in
set_option maxHeartbeats 4000000 in
theorem wl_ends {X : wt_X} {o b L : Nat} {xs : Nat → Int32} {n K : Nat} {Inv : wt_St → Prop} {i : Int32} (hE : wt_OkO X o code 7 "WornTypeLaw" 400 100000) (hdm : ∀ i, wt_dom (wt_xw X) i ↔ i < 321) (hSN : wt_SN (wt_Ao (wt_xw X) o (wt_xs X).heap.size) (wt_xs X) (wt_xs X).heap) (htr : (wt_xl X).stackTraces = false) (hX : wt_scr X o b L xs) (hi : ∀ c : Int32, c = 1 ∨ c = 2 ∨ c = 3 ∨ c = 4 ∨ c = 5 → vp_in (i + c) L) (hK : K + 8 ≤ 100000) (hP : wt_P_ends n Inv) {σ : wt_St} (hσ : Inv σ) (kn : ∀ τ : wt_St, Inv τ → wt_O X o (K + 8) τ 1427 [some (.ref b), some (.ref (wt_ad (wt_xw X) 0)), some (.ref (wt_ad (wt_xw X) 108)), some (.ref o), some (.int i), none, none] []) : wt_O X o K σ 1252 [some (.ref b), some (.ref (wt_ad (wt_xw X) 0)), some (.ref (wt_ad (wt_xw X) 108)), some (.ref o), some (.int i), none, none] [] := by
  have hD : ∀ i, i < 108 → wt_dom (wt_xw X) i := fun i hi => (hdm i).mpr (by omega)
  have hM : ∀ i, 108 ≤ i → i < 321 → wt_dom (wt_xw X) i := fun i _ hi => (hdm i).mpr hi
  obtain ⟨q, hq, hx, r, hr, hI⟩ := hP _ (xs (i + (1 : Int32)).toNatClampNeg) hσ
  refine wt_o_aload_n hE wld_1252 rfl ?_
  refine wt_o_aload_n hE wld_1253 rfl ?_
  refine wt_o_iload hE wld_1254 rfl ?_
  refine wt_o_iconst hE (1 : Int32) wld_1256 (by decide) ?_
  refine wt_o_iadd hE wld_1257 ?_
  refine wt_o_sld hE hX (hi 1 (by decide)) wld_1258 ?_
  refine wt_o_aload_n hE wld_1259 rfl ?_
  refine wt_o_callW hE hSN (k := 3) (dd := 8) (mc := 8) [.ref (wt_ad (wt_xw X) 0), .int (xs (i + (1 : Int32)).toNatClampNeg), .ref o] (wt_g6 110 rfl rfl) (wt_g6 111 rfl rfl) (wt_g1 0 rfl rfl) wt_cm_ends ⟨by decide, by decide, by decide +kernel⟩ (by decide) (ww_ends_ok htr hE.2.2 hD hq hx) (by decide) rfl rfl (Nat.le_of_ble_eq_true rfl) (by omega) wld_1260 (fun w5 => ?_)
  refine wt_o_istore hE [some (.ref b), some (.ref (wt_ad (wt_xw X) 0)), some (.ref (wt_ad (wt_xw X) 108)), some (.ref o), some (.int i), some (.int w5), none] wld_1263 (by decide) rfl ?_
  refine wt_o_aload_n hE wld_1265 rfl ?_
  refine wt_o_aload_n hE wld_1266 rfl ?_
  refine wt_o_iload hE wld_1267 rfl ?_
  refine wt_o_iconst hE (1 : Int32) wld_1269 (by decide) ?_
  refine wt_o_iadd hE wld_1270 ?_
  refine wt_o_sld hE hX (hi 1 (by decide)) wld_1271 ?_
  refine wt_o_callVi (dd := 7) hE [.int (xs (i + (1 : Int32)).toNatClampNeg)] wt_lm_lw_211 wt_ya_md_ends (wp_md_ends_ok hM hr) (by decide) (hM 108 (by decide) (by decide)) wt_L108 rfl rfl rfl (Nat.le_of_ble_eq_true rfl) (by omega) wld_1272 ?_
  refine wt_o_istore hE [some (.ref b), some (.ref (wt_ad (wt_xw X) 0)), some (.ref (wt_ad (wt_xw X) 108)), some (.ref o), some (.int i), some (.int w5), some (.int r.1)] wld_1275 (by decide) rfl ?_
  refine wt_o_goto hE 1427 wld_1277 rfl ?_
  exact wt_o_wk [true, true, true, true, true, false, false] rfl (kn _ hI)
theorem wld_1280 : decode code 1280 = .ok (.aload_n 1, 1) := by decide +kernel
theorem wld_1281 : decode code 1281 = .ok (.aload_n 0, 1) := by decide +kernel
theorem wld_1282 : decode code 1282 = .ok (.iload 4, 2) := by decide +kernel
theorem wld_1284 : decode code 1284 = .ok (.iconst 1, 1) := by decide +kernel
theorem wld_1285 : decode code 1285 = .ok (.iadd, 1) := by decide +kernel
theorem wld_1286 : decode code 1286 = .ok (.iaload, 1) := by decide +kernel
theorem wld_1287 : decode code 1287 = .ok (.aload_n 3, 1) := by decide +kernel
theorem wld_1288 : decode code 1288 = .ok (.invokestatic 212, 3) := by decide +kernel
theorem wld_1291 : decode code 1291 = .ok (.istore 5, 2) := by decide +kernel
theorem wld_1293 : decode code 1293 = .ok (.aload_n 2, 1) := by decide +kernel
theorem wld_1294 : decode code 1294 = .ok (.aload_n 0, 1) := by decide +kernel
theorem wld_1295 : decode code 1295 = .ok (.iload 4, 2) := by decide +kernel
theorem wld_1297 : decode code 1297 = .ok (.iconst 1, 1) := by decide +kernel
theorem wld_1298 : decode code 1298 = .ok (.iadd, 1) := by decide +kernel
theorem wld_1299 : decode code 1299 = .ok (.iaload, 1) := by decide +kernel
theorem wld_1300 : decode code 1300 = .ok (.invokevirtual 214, 3) := by decide +kernel
theorem wld_1303 : decode code 1303 = .ok (.istore 6, 2) := by decide +kernel
theorem wld_1305 : decode code 1305 = .ok (.goto 122, 3) := by decide +kernel
set_option maxRecDepth 100000 in
set_option maxHeartbeats 4000000 in
theorem wl_exchange {X : wt_X} {o b L : Nat} {xs : Nat → Int32} {n K : Nat} {Inv : wt_St → Prop} {i : Int32} (hE : wt_OkO X o code 7 "WornTypeLaw" 400 100000) (hdm : ∀ i, wt_dom (wt_xw X) i ↔ i < 321) (hSN : wt_SN (wt_Ao (wt_xw X) o (wt_xs X).heap.size) (wt_xs X) (wt_xs X).heap) (htr : (wt_xl X).stackTraces = false) (hX : wt_scr X o b L xs) (hi : ∀ c : Int32, c = 1 ∨ c = 2 ∨ c = 3 ∨ c = 4 ∨ c = 5 → vp_in (i + c) L) (hK : K + 8 ≤ 100000) (hP : wt_P_exchange n Inv) {σ : wt_St} (hσ : Inv σ) (kn : ∀ τ : wt_St, Inv τ → wt_O X o (K + 8) τ 1427 [some (.ref b), some (.ref (wt_ad (wt_xw X) 0)), some (.ref (wt_ad (wt_xw X) 108)), some (.ref o), some (.int i), none, none] []) : wt_O X o K σ 1280 [some (.ref b), some (.ref (wt_ad (wt_xw X) 0)), some (.ref (wt_ad (wt_xw X) 108)), some (.ref o), some (.int i), none, none] [] := by
  have hD : ∀ i, i < 108 → wt_dom (wt_xw X) i := fun i hi => (hdm i).mpr (by omega)
  have hM : ∀ i, 108 ≤ i → i < 321 → wt_dom (wt_xw X) i := fun i _ hi => (hdm i).mpr hi
  obtain ⟨q, hq, hx, r, hr, hI⟩ := hP _ (xs (i + (1 : Int32)).toNatClampNeg) hσ
  refine wt_o_aload_n hE wld_1280 rfl ?_
  refine wt_o_aload_n hE wld_1281 rfl ?_
  refine wt_o_iload hE wld_1282 rfl ?_
  refine wt_o_iconst hE (1 : Int32) wld_1284 (by decide) ?_
  refine wt_o_iadd hE wld_1285 ?_
  refine wt_o_sld hE hX (hi 1 (by decide)) wld_1286 ?_
  refine wt_o_aload_n hE wld_1287 rfl ?_
  refine wt_o_callW hE hSN (k := 3) (dd := 8) (mc := 8) [.ref (wt_ad (wt_xw X) 0), .int (xs (i + (1 : Int32)).toNatClampNeg), .ref o] (wt_g6 121 rfl rfl) (wt_g6 122 rfl rfl) (wt_g1 0 rfl rfl) wt_cm_exchange ⟨by decide, by decide, by decide +kernel⟩ (by decide) (ww_exchange_ok htr hE.2.2 hD hq hx) (by decide) rfl rfl (Nat.le_of_ble_eq_true rfl) (by omega) wld_1288 (fun w5 => ?_)
  refine wt_o_istore hE [some (.ref b), some (.ref (wt_ad (wt_xw X) 0)), some (.ref (wt_ad (wt_xw X) 108)), some (.ref o), some (.int i), some (.int w5), none] wld_1291 (by decide) rfl ?_
  refine wt_o_aload_n hE wld_1293 rfl ?_
  refine wt_o_aload_n hE wld_1294 rfl ?_
  refine wt_o_iload hE wld_1295 rfl ?_
  refine wt_o_iconst hE (1 : Int32) wld_1297 (by decide) ?_
  refine wt_o_iadd hE wld_1298 ?_
  refine wt_o_sld hE hX (hi 1 (by decide)) wld_1299 ?_
  refine wt_o_callVi (dd := 5) hE [.int (xs (i + (1 : Int32)).toNatClampNeg)] wt_lm_lw_214 wt_ya_md_exchange (wp_md_exchange_ok hM hr) (by decide) (hM 108 (by decide) (by decide)) wt_L108 rfl rfl rfl (Nat.le_of_ble_eq_true rfl) (by omega) wld_1300 ?_
  refine wt_o_istore hE [some (.ref b), some (.ref (wt_ad (wt_xw X) 0)), some (.ref (wt_ad (wt_xw X) 108)), some (.ref o), some (.int i), some (.int w5), some (.int r.1)] wld_1303 (by decide) rfl ?_
  refine wt_o_goto hE 1427 wld_1305 rfl ?_
  exact wt_o_wk [true, true, true, true, true, false, false] rfl (kn _ hI)
theorem wld_1308 : decode code 1308 = .ok (.aload_n 1, 1) := by decide +kernel
theorem wld_1309 : decode code 1309 = .ok (.aload_n 0, 1) := by decide +kernel
theorem wld_1310 : decode code 1310 = .ok (.iload 4, 2) := by decide +kernel
theorem wld_1312 : decode code 1312 = .ok (.iconst 1, 1) := by decide +kernel
theorem wld_1313 : decode code 1313 = .ok (.iadd, 1) := by decide +kernel
theorem wld_1314 : decode code 1314 = .ok (.iaload, 1) := by decide +kernel
theorem wld_1315 : decode code 1315 = .ok (.aload_n 0, 1) := by decide +kernel
theorem wld_1316 : decode code 1316 = .ok (.iload 4, 2) := by decide +kernel
theorem wld_1318 : decode code 1318 = .ok (.iconst 2, 1) := by decide +kernel
theorem wld_1319 : decode code 1319 = .ok (.iadd, 1) := by decide +kernel
theorem wld_1320 : decode code 1320 = .ok (.iaload, 1) := by decide +kernel
theorem wld_1321 : decode code 1321 = .ok (.aload_n 3, 1) := by decide +kernel
theorem wld_1322 : decode code 1322 = .ok (.invokestatic 215, 3) := by decide +kernel
theorem wld_1325 : decode code 1325 = .ok (.istore 5, 2) := by decide +kernel
theorem wld_1327 : decode code 1327 = .ok (.aload_n 2, 1) := by decide +kernel
theorem wld_1328 : decode code 1328 = .ok (.aload_n 0, 1) := by decide +kernel
theorem wld_1329 : decode code 1329 = .ok (.iload 4, 2) := by decide +kernel
theorem wld_1331 : decode code 1331 = .ok (.iconst 1, 1) := by decide +kernel
theorem wld_1332 : decode code 1332 = .ok (.iadd, 1) := by decide +kernel
theorem wld_1333 : decode code 1333 = .ok (.iaload, 1) := by decide +kernel
theorem wld_1334 : decode code 1334 = .ok (.aload_n 0, 1) := by decide +kernel
theorem wld_1335 : decode code 1335 = .ok (.iload 4, 2) := by decide +kernel
theorem wld_1337 : decode code 1337 = .ok (.iconst 2, 1) := by decide +kernel
theorem wld_1338 : decode code 1338 = .ok (.iadd, 1) := by decide +kernel
theorem wld_1339 : decode code 1339 = .ok (.iaload, 1) := by decide +kernel
theorem wld_1340 : decode code 1340 = .ok (.invokevirtual 217, 3) := by decide +kernel
theorem wld_1343 : decode code 1343 = .ok (.istore 6, 2) := by decide +kernel
theorem wld_1345 : decode code 1345 = .ok (.goto 82, 3) := by decide +kernel
set_option maxRecDepth 100000 in
set_option maxHeartbeats 4000000 in
theorem wl_cast {X : wt_X} {o b L : Nat} {xs : Nat → Int32} {n K : Nat} {Inv : wt_St → Prop} {i : Int32} (hE : wt_OkO X o code 7 "WornTypeLaw" 400 100000) (hdm : ∀ i, wt_dom (wt_xw X) i ↔ i < 321) (hSN : wt_SN (wt_Ao (wt_xw X) o (wt_xs X).heap.size) (wt_xs X) (wt_xs X).heap) (htr : (wt_xl X).stackTraces = false) (hX : wt_scr X o b L xs) (hi : ∀ c : Int32, c = 1 ∨ c = 2 ∨ c = 3 ∨ c = 4 ∨ c = 5 → vp_in (i + c) L) (hK : K + 8 ≤ 100000) (hP : wt_P_cast n Inv) {σ : wt_St} (hσ : Inv σ) (kn : ∀ τ : wt_St, Inv τ → wt_O X o (K + 8) τ 1427 [some (.ref b), some (.ref (wt_ad (wt_xw X) 0)), some (.ref (wt_ad (wt_xw X) 108)), some (.ref o), some (.int i), none, none] []) : wt_O X o K σ 1308 [some (.ref b), some (.ref (wt_ad (wt_xw X) 0)), some (.ref (wt_ad (wt_xw X) 108)), some (.ref o), some (.int i), none, none] [] := by
  have hD : ∀ i, i < 108 → wt_dom (wt_xw X) i := fun i hi => (hdm i).mpr (by omega)
  have hM : ∀ i, 108 ≤ i → i < 321 → wt_dom (wt_xw X) i := fun i _ hi => (hdm i).mpr hi
  obtain ⟨q, hq, hx, r, hr, hI⟩ := hP _ (xs (i + (1 : Int32)).toNatClampNeg) (xs (i + (2 : Int32)).toNatClampNeg) hσ
  refine wt_o_aload_n hE wld_1308 rfl ?_
  refine wt_o_aload_n hE wld_1309 rfl ?_
  refine wt_o_iload hE wld_1310 rfl ?_
  refine wt_o_iconst hE (1 : Int32) wld_1312 (by decide) ?_
  refine wt_o_iadd hE wld_1313 ?_
  refine wt_o_sld hE hX (hi 1 (by decide)) wld_1314 ?_
  refine wt_o_aload_n hE wld_1315 rfl ?_
  refine wt_o_iload hE wld_1316 rfl ?_
  refine wt_o_iconst hE (2 : Int32) wld_1318 (by decide) ?_
  refine wt_o_iadd hE wld_1319 ?_
  refine wt_o_sld hE hX (hi 2 (by decide)) wld_1320 ?_
  refine wt_o_aload_n hE wld_1321 rfl ?_
  refine wt_o_callW hE hSN (k := 4) (dd := 9) (mc := 8) [.ref (wt_ad (wt_xw X) 0), .int (xs (i + (1 : Int32)).toNatClampNeg), .int (xs (i + (2 : Int32)).toNatClampNeg), .ref o] (wt_g6 160 rfl rfl) (wt_g6 161 rfl rfl) (wt_g1 0 rfl rfl) wt_cm_cast ⟨by decide, by decide, by decide +kernel⟩ (by decide) (ww_cast_ok htr hE.2.2 hD hq hx) (by decide) rfl rfl (Nat.le_of_ble_eq_true rfl) (by omega) wld_1322 (fun w5 => ?_)
  refine wt_o_istore hE [some (.ref b), some (.ref (wt_ad (wt_xw X) 0)), some (.ref (wt_ad (wt_xw X) 108)), some (.ref o), some (.int i), some (.int w5), none] wld_1325 (by decide) rfl ?_
  refine wt_o_aload_n hE wld_1327 rfl ?_
  refine wt_o_aload_n hE wld_1328 rfl ?_
  refine wt_o_iload hE wld_1329 rfl ?_
  refine wt_o_iconst hE (1 : Int32) wld_1331 (by decide) ?_
  refine wt_o_iadd hE wld_1332 ?_
  refine wt_o_sld hE hX (hi 1 (by decide)) wld_1333 ?_
  refine wt_o_aload_n hE wld_1334 rfl ?_
  refine wt_o_iload hE wld_1335 rfl ?_
  refine wt_o_iconst hE (2 : Int32) wld_1337 (by decide) ?_
  refine wt_o_iadd hE wld_1338 ?_
  refine wt_o_sld hE hX (hi 2 (by decide)) wld_1339 ?_
  refine wt_o_callVi (dd := 5) hE [.int (xs (i + (1 : Int32)).toNatClampNeg), .int (xs (i + (2 : Int32)).toNatClampNeg)] wt_lm_lw_217 wt_ya_md_cast (wp_md_cast_ok hM hr) (by decide) (hM 108 (by decide) (by decide)) wt_L108 rfl rfl rfl (Nat.le_of_ble_eq_true rfl) (by omega) wld_1340 ?_
  refine wt_o_istore hE [some (.ref b), some (.ref (wt_ad (wt_xw X) 0)), some (.ref (wt_ad (wt_xw X) 108)), some (.ref o), some (.int i), some (.int w5), some (.int r.1)] wld_1343 (by decide) rfl ?_
  refine wt_o_goto hE 1427 wld_1345 rfl ?_
  exact wt_o_wk [true, true, true, true, true, false, false] rfl (kn _ hI)
theorem wld_1348 : decode code 1348 = .ok (.aload_n 1, 1) := by decide +kernel
theorem wld_1349 : decode code 1349 = .ok (.aload_n 0, 1) := by decide +kernel
theorem wld_1350 : decode code 1350 = .ok (.iload 4, 2) := by decide +kernel
theorem wld_1352 : decode code 1352 = .ok (.iconst 1, 1) := by decide +kernel
theorem wld_1353 : decode code 1353 = .ok (.iadd, 1) := by decide +kernel
theorem wld_1354 : decode code 1354 = .ok (.iaload, 1) := by decide +kernel
theorem wld_1355 : decode code 1355 = .ok (.aload_n 3, 1) := by decide +kernel
theorem wld_1356 : decode code 1356 = .ok (.invokestatic 218, 3) := by decide +kernel
theorem wld_1359 : decode code 1359 = .ok (.istore 5, 2) := by decide +kernel
theorem wld_1361 : decode code 1361 = .ok (.aload_n 2, 1) := by decide +kernel
theorem wld_1362 : decode code 1362 = .ok (.aload_n 0, 1) := by decide +kernel
theorem wld_1363 : decode code 1363 = .ok (.iload 4, 2) := by decide +kernel
theorem wld_1365 : decode code 1365 = .ok (.iconst 1, 1) := by decide +kernel
theorem wld_1366 : decode code 1366 = .ok (.iadd, 1) := by decide +kernel
theorem wld_1367 : decode code 1367 = .ok (.iaload, 1) := by decide +kernel
theorem wld_1368 : decode code 1368 = .ok (.invokevirtual 220, 3) := by decide +kernel
theorem wld_1371 : decode code 1371 = .ok (.istore 6, 2) := by decide +kernel
theorem wld_1373 : decode code 1373 = .ok (.goto 54, 3) := by decide +kernel
set_option maxRecDepth 100000 in
set_option maxHeartbeats 4000000 in
theorem wl_together {X : wt_X} {o b L : Nat} {xs : Nat → Int32} {n K : Nat} {Inv : wt_St → Prop} {i : Int32} (hE : wt_OkO X o code 7 "WornTypeLaw" 400 100000) (hdm : ∀ i, wt_dom (wt_xw X) i ↔ i < 321) (hSN : wt_SN (wt_Ao (wt_xw X) o (wt_xs X).heap.size) (wt_xs X) (wt_xs X).heap) (htr : (wt_xl X).stackTraces = false) (hX : wt_scr X o b L xs) (hi : ∀ c : Int32, c = 1 ∨ c = 2 ∨ c = 3 ∨ c = 4 ∨ c = 5 → vp_in (i + c) L) (hK : K + 8 ≤ 100000) (hP : wt_P_together n Inv) {σ : wt_St} (hσ : Inv σ) (kn : ∀ τ : wt_St, Inv τ → wt_O X o (K + 8) τ 1427 [some (.ref b), some (.ref (wt_ad (wt_xw X) 0)), some (.ref (wt_ad (wt_xw X) 108)), some (.ref o), some (.int i), none, none] []) : wt_O X o K σ 1348 [some (.ref b), some (.ref (wt_ad (wt_xw X) 0)), some (.ref (wt_ad (wt_xw X) 108)), some (.ref o), some (.int i), none, none] [] := by
  have hD : ∀ i, i < 108 → wt_dom (wt_xw X) i := fun i hi => (hdm i).mpr (by omega)
  have hM : ∀ i, 108 ≤ i → i < 321 → wt_dom (wt_xw X) i := fun i _ hi => (hdm i).mpr hi
  obtain ⟨q, hq, hx, r, hr, hI⟩ := hP _ (xs (i + (1 : Int32)).toNatClampNeg) hσ
  refine wt_o_aload_n hE wld_1348 rfl ?_
  refine wt_o_aload_n hE wld_1349 rfl ?_
  refine wt_o_iload hE wld_1350 rfl ?_
  refine wt_o_iconst hE (1 : Int32) wld_1352 (by decide) ?_
  refine wt_o_iadd hE wld_1353 ?_
  refine wt_o_sld hE hX (hi 1 (by decide)) wld_1354 ?_
  refine wt_o_aload_n hE wld_1355 rfl ?_
  refine wt_o_callW hE hSN (k := 3) (dd := 9) (mc := 8) [.ref (wt_ad (wt_xw X) 0), .int (xs (i + (1 : Int32)).toNatClampNeg), .ref o] (wt_g6 171 rfl rfl) (wt_g6 172 rfl rfl) (wt_g1 0 rfl rfl) wt_cm_together ⟨by decide, by decide, by decide +kernel⟩ (by decide) (ww_together_ok htr hE.2.2 hD hq hx) (by decide) rfl rfl (Nat.le_of_ble_eq_true rfl) (by omega) wld_1356 (fun w5 => ?_)
  refine wt_o_istore hE [some (.ref b), some (.ref (wt_ad (wt_xw X) 0)), some (.ref (wt_ad (wt_xw X) 108)), some (.ref o), some (.int i), some (.int w5), none] wld_1359 (by decide) rfl ?_
  refine wt_o_aload_n hE wld_1361 rfl ?_
  refine wt_o_aload_n hE wld_1362 rfl ?_
  refine wt_o_iload hE wld_1363 rfl ?_
  refine wt_o_iconst hE (1 : Int32) wld_1365 (by decide) ?_
  refine wt_o_iadd hE wld_1366 ?_
  refine wt_o_sld hE hX (hi 1 (by decide)) wld_1367 ?_
  refine wt_o_callVi (dd := 4) hE [.int (xs (i + (1 : Int32)).toNatClampNeg)] wt_lm_lw_220 wt_ya_md_together (wp_md_together_ok hM hr) (by decide) (hM 108 (by decide) (by decide)) wt_L108 rfl rfl rfl (Nat.le_of_ble_eq_true rfl) (by omega) wld_1368 ?_
  refine wt_o_istore hE [some (.ref b), some (.ref (wt_ad (wt_xw X) 0)), some (.ref (wt_ad (wt_xw X) 108)), some (.ref o), some (.int i), some (.int w5), some (.int r.1)] wld_1371 (by decide) rfl ?_
  refine wt_o_goto hE 1427 wld_1373 rfl ?_
  exact wt_o_wk [true, true, true, true, true, false, false] rfl (kn _ hI)
theorem wld_1376 : decode code 1376 = .ok (.aload_n 1, 1) := by decide +kernel
theorem wld_1377 : decode code 1377 = .ok (.invokevirtual 221, 3) := by decide +kernel
theorem wld_1380 : decode code 1380 = .ok (.pop, 1) := by decide +kernel
theorem wld_1381 : decode code 1381 = .ok (.aload_n 2, 1) := by decide +kernel
theorem wld_1382 : decode code 1382 = .ok (.invokevirtual 224, 3) := by decide +kernel
theorem wld_1385 : decode code 1385 = .ok (.pop, 1) := by decide +kernel
theorem wld_1386 : decode code 1386 = .ok (.goto 41, 3) := by decide +kernel
set_option maxRecDepth 100000 in
set_option maxHeartbeats 4000000 in
theorem wl_image {X : wt_X} {o b L : Nat} {xs : Nat → Int32} {n K : Nat} {Inv : wt_St → Prop} {i : Int32} (hE : wt_OkO X o code 7 "WornTypeLaw" 400 100000) (hdm : ∀ i, wt_dom (wt_xw X) i ↔ i < 321) (hSN : wt_SN (wt_Ao (wt_xw X) o (wt_xs X).heap.size) (wt_xs X) (wt_xs X).heap) (htr : (wt_xl X).stackTraces = false) (hX : wt_scr X o b L xs) (hi : ∀ c : Int32, c = 1 ∨ c = 2 ∨ c = 3 ∨ c = 4 ∨ c = 5 → vp_in (i + c) L) (hK : K + 8 ≤ 100000) (hP : wt_P_image n Inv) {σ : wt_St} (hσ : Inv σ) (kn : ∀ τ : wt_St, Inv τ → wt_O X o (K + 8) τ 1427 [some (.ref b), some (.ref (wt_ad (wt_xw X) 0)), some (.ref (wt_ad (wt_xw X) 108)), some (.ref o), some (.int i), none, none] []) : wt_O X o K σ 1376 [some (.ref b), some (.ref (wt_ad (wt_xw X) 0)), some (.ref (wt_ad (wt_xw X) 108)), some (.ref o), some (.int i), none, none] [] := by
  have hD : ∀ i, i < 108 → wt_dom (wt_xw X) i := fun i hi => (hdm i).mpr (by omega)
  have hM : ∀ i, 108 ≤ i → i < 321 → wt_dom (wt_xw X) i := fun i _ hi => (hdm i).mpr hi
  obtain ⟨q, hq, r, hr, hI⟩ := hP _  hσ
  refine wt_o_aload_n hE wld_1376 rfl ?_
  refine wt_o_callVi (dd := 2) hE [] wt_lm_lw_221 wt_ya_ap_image (wp_ap_image_ok hD hq) (by decide) (hD 0 (by decide)) wt_L0 rfl rfl rfl (Nat.le_of_ble_eq_true rfl) (by omega) wld_1377 ?_
  refine wt_o_pop hE wld_1380 rfl ?_
  refine wt_o_aload_n hE wld_1381 rfl ?_
  refine wt_o_callVi (dd := 2) hE [] wt_lm_lw_224 wt_ya_md_image (wp_md_image_ok hM hr) (by decide) (hM 108 (by decide) (by decide)) wt_L108 rfl rfl rfl (Nat.le_of_ble_eq_true rfl) (by omega) wld_1382 ?_
  refine wt_o_pop hE wld_1385 rfl ?_
  refine wt_o_goto hE 1427 wld_1386 rfl ?_
  refine wt_o_kup (K' := K + 8) (by omega) ?_
  exact wt_o_wk [true, true, true, true, true, false, false] rfl (kn _ hI)
theorem wld_1389 : decode code 1389 = .ok (.aload_n 1, 1) := by decide +kernel
theorem wld_1390 : decode code 1390 = .ok (.invokevirtual 225, 3) := by decide +kernel
theorem wld_1393 : decode code 1393 = .ok (.pop, 1) := by decide +kernel
theorem wld_1394 : decode code 1394 = .ok (.aload_n 2, 1) := by decide +kernel
theorem wld_1395 : decode code 1395 = .ok (.invokevirtual 228, 3) := by decide +kernel
theorem wld_1398 : decode code 1398 = .ok (.pop, 1) := by decide +kernel
theorem wld_1399 : decode code 1399 = .ok (.goto 28, 3) := by decide +kernel
set_option maxRecDepth 100000 in
set_option maxHeartbeats 4000000 in
theorem wl_restore {X : wt_X} {o b L : Nat} {xs : Nat → Int32} {n K : Nat} {Inv : wt_St → Prop} {i : Int32} (hE : wt_OkO X o code 7 "WornTypeLaw" 400 100000) (hdm : ∀ i, wt_dom (wt_xw X) i ↔ i < 321) (hSN : wt_SN (wt_Ao (wt_xw X) o (wt_xs X).heap.size) (wt_xs X) (wt_xs X).heap) (htr : (wt_xl X).stackTraces = false) (hX : wt_scr X o b L xs) (hi : ∀ c : Int32, c = 1 ∨ c = 2 ∨ c = 3 ∨ c = 4 ∨ c = 5 → vp_in (i + c) L) (hK : K + 8 ≤ 100000) (hP : wt_P_restore n Inv) {σ : wt_St} (hσ : Inv σ) (kn : ∀ τ : wt_St, Inv τ → wt_O X o (K + 8) τ 1427 [some (.ref b), some (.ref (wt_ad (wt_xw X) 0)), some (.ref (wt_ad (wt_xw X) 108)), some (.ref o), some (.int i), none, none] []) : wt_O X o K σ 1389 [some (.ref b), some (.ref (wt_ad (wt_xw X) 0)), some (.ref (wt_ad (wt_xw X) 108)), some (.ref o), some (.int i), none, none] [] := by
  have hD : ∀ i, i < 108 → wt_dom (wt_xw X) i := fun i hi => (hdm i).mpr (by omega)
  have hM : ∀ i, 108 ≤ i → i < 321 → wt_dom (wt_xw X) i := fun i _ hi => (hdm i).mpr hi
  obtain ⟨q, hq, r, hr, hI⟩ := hP _  hσ
  refine wt_o_aload_n hE wld_1389 rfl ?_
  refine wt_o_callVi (dd := 2) hE [] wt_lm_lw_225 wt_ya_ap_restore (wp_ap_restore_ok hD hq) (by decide) (hD 0 (by decide)) wt_L0 rfl rfl rfl (Nat.le_of_ble_eq_true rfl) (by omega) wld_1390 ?_
  refine wt_o_pop hE wld_1393 rfl ?_
  refine wt_o_aload_n hE wld_1394 rfl ?_
  refine wt_o_callVi (dd := 2) hE [] wt_lm_lw_228 wt_ya_md_restore (wp_md_restore_ok hM hr) (by decide) (hM 108 (by decide) (by decide)) wt_L108 rfl rfl rfl (Nat.le_of_ble_eq_true rfl) (by omega) wld_1395 ?_
  refine wt_o_pop hE wld_1398 rfl ?_
  refine wt_o_goto hE 1427 wld_1399 rfl ?_
  refine wt_o_kup (K' := K + 8) (by omega) ?_
  exact wt_o_wk [true, true, true, true, true, false, false] rfl (kn _ hI)
theorem wld_1402 : decode code 1402 = .ok (.aload_n 1, 1) := by decide +kernel
theorem wld_1403 : decode code 1403 = .ok (.aload_n 0, 1) := by decide +kernel
theorem wld_1404 : decode code 1404 = .ok (.iload 4, 2) := by decide +kernel
theorem wld_1406 : decode code 1406 = .ok (.iconst 1, 1) := by decide +kernel
theorem wld_1407 : decode code 1407 = .ok (.iadd, 1) := by decide +kernel
theorem wld_1408 : decode code 1408 = .ok (.iaload, 1) := by decide +kernel
theorem wld_1409 : decode code 1409 = .ok (.invokevirtual 229, 3) := by decide +kernel
theorem wld_1412 : decode code 1412 = .ok (.pop, 1) := by decide +kernel
theorem wld_1413 : decode code 1413 = .ok (.aload_n 2, 1) := by decide +kernel
theorem wld_1414 : decode code 1414 = .ok (.aload_n 0, 1) := by decide +kernel
theorem wld_1415 : decode code 1415 = .ok (.iload 4, 2) := by decide +kernel
theorem wld_1417 : decode code 1417 = .ok (.iconst 1, 1) := by decide +kernel
theorem wld_1418 : decode code 1418 = .ok (.iadd, 1) := by decide +kernel
theorem wld_1419 : decode code 1419 = .ok (.iaload, 1) := by decide +kernel
theorem wld_1420 : decode code 1420 = .ok (.invokevirtual 232, 3) := by decide +kernel
theorem wld_1423 : decode code 1423 = .ok (.pop, 1) := by decide +kernel
theorem wld_1424 : decode code 1424 = .ok (.goto 3, 3) := by decide +kernel
set_option maxRecDepth 100000 in
set_option maxHeartbeats 4000000 in
theorem wl_count {X : wt_X} {o b L : Nat} {xs : Nat → Int32} {n K : Nat} {Inv : wt_St → Prop} {i : Int32} (hE : wt_OkO X o code 7 "WornTypeLaw" 400 100000) (hdm : ∀ i, wt_dom (wt_xw X) i ↔ i < 321) (hSN : wt_SN (wt_Ao (wt_xw X) o (wt_xs X).heap.size) (wt_xs X) (wt_xs X).heap) (htr : (wt_xl X).stackTraces = false) (hX : wt_scr X o b L xs) (hi : ∀ c : Int32, c = 1 ∨ c = 2 ∨ c = 3 ∨ c = 4 ∨ c = 5 → vp_in (i + c) L) (hK : K + 8 ≤ 100000) (hP : wt_P_count n Inv) {σ : wt_St} (hσ : Inv σ) (kn : ∀ τ : wt_St, Inv τ → wt_O X o (K + 8) τ 1427 [some (.ref b), some (.ref (wt_ad (wt_xw X) 0)), some (.ref (wt_ad (wt_xw X) 108)), some (.ref o), some (.int i), none, none] []) : wt_O X o K σ 1402 [some (.ref b), some (.ref (wt_ad (wt_xw X) 0)), some (.ref (wt_ad (wt_xw X) 108)), some (.ref o), some (.int i), none, none] [] := by
  have hD : ∀ i, i < 108 → wt_dom (wt_xw X) i := fun i hi => (hdm i).mpr (by omega)
  have hM : ∀ i, 108 ≤ i → i < 321 → wt_dom (wt_xw X) i := fun i _ hi => (hdm i).mpr hi
  obtain ⟨q, hq, r, hr, hI⟩ := hP _ (xs (i + (1 : Int32)).toNatClampNeg) hσ
  refine wt_o_aload_n hE wld_1402 rfl ?_
  refine wt_o_aload_n hE wld_1403 rfl ?_
  refine wt_o_iload hE wld_1404 rfl ?_
  refine wt_o_iconst hE (1 : Int32) wld_1406 (by decide) ?_
  refine wt_o_iadd hE wld_1407 ?_
  refine wt_o_sld hE hX (hi 1 (by decide)) wld_1408 ?_
  refine wt_o_callVi (dd := 0) hE [.int (xs (i + (1 : Int32)).toNatClampNeg)] wt_lm_lw_229 wt_ya_ap_count (wp_ap_count_ok hD hq) (by decide) (hD 0 (by decide)) wt_L0 rfl rfl rfl (Nat.le_of_ble_eq_true rfl) (by omega) wld_1409 ?_
  refine wt_o_pop hE wld_1412 rfl ?_
  refine wt_o_aload_n hE wld_1413 rfl ?_
  refine wt_o_aload_n hE wld_1414 rfl ?_
  refine wt_o_iload hE wld_1415 rfl ?_
  refine wt_o_iconst hE (1 : Int32) wld_1417 (by decide) ?_
  refine wt_o_iadd hE wld_1418 ?_
  refine wt_o_sld hE hX (hi 1 (by decide)) wld_1419 ?_
  refine wt_o_callVi (dd := 0) hE [.int (xs (i + (1 : Int32)).toNatClampNeg)] wt_lm_lw_232 wt_ya_md_count (wp_md_count_ok hM hr) (by decide) (hM 108 (by decide) (by decide)) wt_L108 rfl rfl rfl (Nat.le_of_ble_eq_true rfl) (by omega) wld_1420 ?_
  refine wt_o_pop hE wld_1423 rfl ?_
  refine wt_o_goto hE 1427 wld_1424 rfl ?_
  refine wt_o_kup (K' := K + 8) (by omega) ?_
  exact wt_o_wk [true, true, true, true, true, false, false] rfl (kn _ hI)
end WLC
