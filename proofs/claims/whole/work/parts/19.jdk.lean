def ushI (x y : Int32) : Int32 := (x.toUInt32 >>> (y.toUInt32 &&& Int32.toUInt32 31)).toInt32
def ushL (x : Int64) (y : Int32) : Int64 := (x.toUInt64 >>> (y.toInt64.toUInt64 &&& Int64.toUInt64 63)).toInt64
theorem ushI_eq (x y : Int32) : (x.toUInt32 >>> (y.toUInt32 &&& Int32.toUInt32 31)).toInt32 = ushI x y := rfl
theorem ushL_eq (x : Int64) (y : Int32) : (x.toUInt64 >>> (y.toInt64.toUInt64 &&& Int64.toUInt64 63)).toInt64 = ushL x y := rfl
theorem inc_16 (x : Int32) : x + Int32.ofInt 16 = x + 16 := rfl
theorem inc_8 (x : Int32) : x + Int32.ofInt 8 = x + 8 := rfl
theorem inc_4 (x : Int32) : x + Int32.ofInt 4 = x + 4 := rfl
theorem inc_2 (x : Int32) : x + Int32.ofInt 2 = x + 2 := rfl
def nt1 (q : Int32 × Int32) (b k : Int32) : Int32 × Int32 := if q.2 ≤ b then q else (q.1 + k, ushI q.2 k)
def ntzM (v : Int32) : Int32 := if 0 < v then (nt1 (nt1 (nt1 (nt1 (1, v) 65536 16) 256 8) 16 4) 4 2).1 + ushI (nt1 (nt1 (nt1 (nt1 (1, v) 65536 16) 256 8) 16 4) 4 2).2 1 else v &&& 32
def ntzI (x : Int32) : Int32 := ntzM ((x ^^^ (-1)) &&& (x - 1))
def pop1 (v : Int64) : Int64 := v - (ushL v 1 &&& 6148914691236517205)
def pop2 (v : Int64) : Int64 := (v &&& 3689348814741910323) + (ushL v 2 &&& 3689348814741910323)
def pop3 (v : Int64) : Int64 := (v + ushL v 4) &&& 1085102592571150095
def popA (v : Int64) (k : Int32) : Int64 := v + ushL v k
def popL (v : Int64) : Int32 := (popA (popA (popA (pop3 (pop2 (pop1 v))) 8) 16) 32).toInt32 &&& 127
def ntzL (v : Int64) : Int32 := if v.toInt32 = 0 then 32 + ntzI (ushL v 32).toInt32 else ntzI v.toInt32
set_option maxRecDepth 100000 in
set_option maxHeartbeats 4000000 in
theorem c_J6_numberOfTrailingZeros_0f7a4 (l : Launch) (x : Int32) : MSi l yJ6_numberOfTrailingZeros_0f7a4 cJ6_numberOfTrailingZeros_0f7a4 2 (some .int) (rmL 1 0 0) [.int x] (fun r => r = ntzI x) := by
  refine s_enter (by decide) (Nat.le_of_ble_eq_true rfl) ?_
  intro p e s m below meth c ls S hr hlocks hl
  refine lv_iload_n S.1 S.2.1 dJ6_numberOfTrailingZeros_0f7a4_0 rfl (lv_at hl 0 rfl) ?_
  refine lv_iconst (v := (-1)) S.1 S.2.1 dJ6_numberOfTrailingZeros_0f7a4_1 rfl ?_
  refine lv_ixor S.1 S.2.1 dJ6_numberOfTrailingZeros_0f7a4_2 ?_
  refine lv_iload_n S.1 S.2.1 dJ6_numberOfTrailingZeros_0f7a4_3 rfl (lv_at hl 0 rfl) ?_
  refine lv_iconst (v := (1)) S.1 S.2.1 dJ6_numberOfTrailingZeros_0f7a4_4 rfl ?_
  refine lv_isub S.1 S.2.1 dJ6_numberOfTrailingZeros_0f7a4_5 ?_
  refine lv_iand S.1 S.2.1 dJ6_numberOfTrailingZeros_0f7a4_6 ?_
  refine lv_istore_n S.1 S.2.1 dJ6_numberOfTrailingZeros_0f7a4_7 rfl hl (by decide) rfl (fun ls hl => ?_)
  refine lv_iload_n S.1 S.2.1 dJ6_numberOfTrailingZeros_0f7a4_8 rfl (lv_at hl 0 rfl) ?_
  refine lv_if_gt (tgt := 17) S.1 S.2.1 dJ6_numberOfTrailingZeros_0f7a4_9 (by decide) (fun c9 => ?_) (fun c9 => ?_)
  · skip
    refine lv_iconst (v := (1)) S.1 S.2.1 dJ6_numberOfTrailingZeros_0f7a4_17 rfl ?_
    refine lv_istore_n S.1 S.2.1 dJ6_numberOfTrailingZeros_0f7a4_18 rfl hl (by decide) rfl (fun ls hl => ?_)
    refine lv_iload_n S.1 S.2.1 dJ6_numberOfTrailingZeros_0f7a4_19 rfl (lv_at hl 1 rfl) ?_
    refine lv_ldcw S.1 S.2.1 S.2.2.2.1 (S.2.2.2.2 _ w_179) dJ6_numberOfTrailingZeros_0f7a4_20 ?_
    refine lv_icmp_le (tgt := 34) S.1 S.2.1 dJ6_numberOfTrailingZeros_0f7a4_23 (by decide) (fun c23 => ?_) (fun c23 => ?_)
    · skip
      refine lv_iload_n S.1 S.2.1 dJ6_numberOfTrailingZeros_0f7a4_34 rfl (lv_at hl 1 rfl) ?_
      refine lv_sipush (v := (256)) S.1 S.2.1 dJ6_numberOfTrailingZeros_0f7a4_35 rfl ?_
      refine lv_icmp_le (tgt := 49) S.1 S.2.1 dJ6_numberOfTrailingZeros_0f7a4_38 (by decide) (fun c38 => ?_) (fun c38 => ?_)
      · skip
        refine lv_iload_n S.1 S.2.1 dJ6_numberOfTrailingZeros_0f7a4_49 rfl (lv_at hl 1 rfl) ?_
        refine lv_bipush (v := (16)) S.1 S.2.1 dJ6_numberOfTrailingZeros_0f7a4_50 rfl ?_
        refine lv_icmp_le (tgt := 62) S.1 S.2.1 dJ6_numberOfTrailingZeros_0f7a4_52 (by decide) (fun c52 => ?_) (fun c52 => ?_)
        · skip
          refine lv_iload_n S.1 S.2.1 dJ6_numberOfTrailingZeros_0f7a4_62 rfl (lv_at hl 1 rfl) ?_
          refine lv_iconst (v := (4)) S.1 S.2.1 dJ6_numberOfTrailingZeros_0f7a4_63 rfl ?_
          refine lv_icmp_le (tgt := 74) S.1 S.2.1 dJ6_numberOfTrailingZeros_0f7a4_64 (by decide) (fun c64 => ?_) (fun c64 => ?_)
          · skip
            refine lv_iload_n S.1 S.2.1 dJ6_numberOfTrailingZeros_0f7a4_74 rfl (lv_at hl 0 rfl) ?_
            refine lv_iload_n S.1 S.2.1 dJ6_numberOfTrailingZeros_0f7a4_75 rfl (lv_at hl 1 rfl) ?_
            refine lv_iconst (v := (1)) S.1 S.2.1 dJ6_numberOfTrailingZeros_0f7a4_76 rfl ?_
            refine lv_iushr S.1 S.2.1 dJ6_numberOfTrailingZeros_0f7a4_77 (ushI_eq _ _) ?_
            refine lv_iadd S.1 S.2.1 dJ6_numberOfTrailingZeros_0f7a4_78 ?_
            exact s_iret S hr hlocks (by simp only [ntzI, ntzM, if_pos c9, nt1, if_pos c23, if_pos c38, if_pos c52, if_pos c64]) rfl dJ6_numberOfTrailingZeros_0f7a4_79
          · skip
            refine lv_iinc (k := 0) S.1 S.2.1 dJ6_numberOfTrailingZeros_0f7a4_67 hl rfl (inc_2 _) (by decide) rfl (fun ls hl => ?_)
            refine lv_iload_n S.1 S.2.1 dJ6_numberOfTrailingZeros_0f7a4_70 rfl (lv_at hl 1 rfl) ?_
            refine lv_iconst (v := (2)) S.1 S.2.1 dJ6_numberOfTrailingZeros_0f7a4_71 rfl ?_
            refine lv_iushr S.1 S.2.1 dJ6_numberOfTrailingZeros_0f7a4_72 (ushI_eq _ _) ?_
            refine lv_istore_n S.1 S.2.1 dJ6_numberOfTrailingZeros_0f7a4_73 rfl hl (by decide) rfl (fun ls hl => ?_)
            refine lv_iload_n S.1 S.2.1 dJ6_numberOfTrailingZeros_0f7a4_74 rfl (lv_at hl 1 rfl) ?_
            refine lv_iload_n S.1 S.2.1 dJ6_numberOfTrailingZeros_0f7a4_75 rfl (lv_at hl 0 rfl) ?_
            refine lv_iconst (v := (1)) S.1 S.2.1 dJ6_numberOfTrailingZeros_0f7a4_76 rfl ?_
            refine lv_iushr S.1 S.2.1 dJ6_numberOfTrailingZeros_0f7a4_77 (ushI_eq _ _) ?_
            refine lv_iadd S.1 S.2.1 dJ6_numberOfTrailingZeros_0f7a4_78 ?_
            exact s_iret S hr hlocks (by simp only [ntzI, ntzM, if_pos c9, nt1, if_pos c23, if_pos c38, if_pos c52, if_neg c64]) rfl dJ6_numberOfTrailingZeros_0f7a4_79
        · skip
          refine lv_iinc (k := 0) S.1 S.2.1 dJ6_numberOfTrailingZeros_0f7a4_55 hl rfl (inc_4 _) (by decide) rfl (fun ls hl => ?_)
          refine lv_iload_n S.1 S.2.1 dJ6_numberOfTrailingZeros_0f7a4_58 rfl (lv_at hl 1 rfl) ?_
          refine lv_iconst (v := (4)) S.1 S.2.1 dJ6_numberOfTrailingZeros_0f7a4_59 rfl ?_
          refine lv_iushr S.1 S.2.1 dJ6_numberOfTrailingZeros_0f7a4_60 (ushI_eq _ _) ?_
          refine lv_istore_n S.1 S.2.1 dJ6_numberOfTrailingZeros_0f7a4_61 rfl hl (by decide) rfl (fun ls hl => ?_)
          refine lv_iload_n S.1 S.2.1 dJ6_numberOfTrailingZeros_0f7a4_62 rfl (lv_at hl 0 rfl) ?_
          refine lv_iconst (v := (4)) S.1 S.2.1 dJ6_numberOfTrailingZeros_0f7a4_63 rfl ?_
          refine lv_icmp_le (tgt := 74) S.1 S.2.1 dJ6_numberOfTrailingZeros_0f7a4_64 (by decide) (fun c64 => ?_) (fun c64 => ?_)
          · skip
            refine lv_iload_n S.1 S.2.1 dJ6_numberOfTrailingZeros_0f7a4_74 rfl (lv_at hl 1 rfl) ?_
            refine lv_iload_n S.1 S.2.1 dJ6_numberOfTrailingZeros_0f7a4_75 rfl (lv_at hl 0 rfl) ?_
            refine lv_iconst (v := (1)) S.1 S.2.1 dJ6_numberOfTrailingZeros_0f7a4_76 rfl ?_
            refine lv_iushr S.1 S.2.1 dJ6_numberOfTrailingZeros_0f7a4_77 (ushI_eq _ _) ?_
            refine lv_iadd S.1 S.2.1 dJ6_numberOfTrailingZeros_0f7a4_78 ?_
            exact s_iret S hr hlocks (by simp only [ntzI, ntzM, if_pos c9, nt1, if_pos c23, if_pos c38, if_neg c52, if_pos c64]) rfl dJ6_numberOfTrailingZeros_0f7a4_79
          · skip
            refine lv_iinc (k := 1) S.1 S.2.1 dJ6_numberOfTrailingZeros_0f7a4_67 hl rfl (inc_2 _) (by decide) rfl (fun ls hl => ?_)
            refine lv_iload_n S.1 S.2.1 dJ6_numberOfTrailingZeros_0f7a4_70 rfl (lv_at hl 1 rfl) ?_
            refine lv_iconst (v := (2)) S.1 S.2.1 dJ6_numberOfTrailingZeros_0f7a4_71 rfl ?_
            refine lv_iushr S.1 S.2.1 dJ6_numberOfTrailingZeros_0f7a4_72 (ushI_eq _ _) ?_
            refine lv_istore_n S.1 S.2.1 dJ6_numberOfTrailingZeros_0f7a4_73 rfl hl (by decide) rfl (fun ls hl => ?_)
            refine lv_iload_n S.1 S.2.1 dJ6_numberOfTrailingZeros_0f7a4_74 rfl (lv_at hl 1 rfl) ?_
            refine lv_iload_n S.1 S.2.1 dJ6_numberOfTrailingZeros_0f7a4_75 rfl (lv_at hl 0 rfl) ?_
            refine lv_iconst (v := (1)) S.1 S.2.1 dJ6_numberOfTrailingZeros_0f7a4_76 rfl ?_
            refine lv_iushr S.1 S.2.1 dJ6_numberOfTrailingZeros_0f7a4_77 (ushI_eq _ _) ?_
            refine lv_iadd S.1 S.2.1 dJ6_numberOfTrailingZeros_0f7a4_78 ?_
            exact s_iret S hr hlocks (by simp only [ntzI, ntzM, if_pos c9, nt1, if_pos c23, if_pos c38, if_neg c52, if_neg c64]) rfl dJ6_numberOfTrailingZeros_0f7a4_79
      · skip
        refine lv_iinc (k := 0) S.1 S.2.1 dJ6_numberOfTrailingZeros_0f7a4_41 hl rfl (inc_8 _) (by decide) rfl (fun ls hl => ?_)
        refine lv_iload_n S.1 S.2.1 dJ6_numberOfTrailingZeros_0f7a4_44 rfl (lv_at hl 1 rfl) ?_
        refine lv_bipush (v := (8)) S.1 S.2.1 dJ6_numberOfTrailingZeros_0f7a4_45 rfl ?_
        refine lv_iushr S.1 S.2.1 dJ6_numberOfTrailingZeros_0f7a4_47 (ushI_eq _ _) ?_
        refine lv_istore_n S.1 S.2.1 dJ6_numberOfTrailingZeros_0f7a4_48 rfl hl (by decide) rfl (fun ls hl => ?_)
        refine lv_iload_n S.1 S.2.1 dJ6_numberOfTrailingZeros_0f7a4_49 rfl (lv_at hl 0 rfl) ?_
        refine lv_bipush (v := (16)) S.1 S.2.1 dJ6_numberOfTrailingZeros_0f7a4_50 rfl ?_
        refine lv_icmp_le (tgt := 62) S.1 S.2.1 dJ6_numberOfTrailingZeros_0f7a4_52 (by decide) (fun c52 => ?_) (fun c52 => ?_)
        · skip
          refine lv_iload_n S.1 S.2.1 dJ6_numberOfTrailingZeros_0f7a4_62 rfl (lv_at hl 0 rfl) ?_
          refine lv_iconst (v := (4)) S.1 S.2.1 dJ6_numberOfTrailingZeros_0f7a4_63 rfl ?_
          refine lv_icmp_le (tgt := 74) S.1 S.2.1 dJ6_numberOfTrailingZeros_0f7a4_64 (by decide) (fun c64 => ?_) (fun c64 => ?_)
          · skip
            refine lv_iload_n S.1 S.2.1 dJ6_numberOfTrailingZeros_0f7a4_74 rfl (lv_at hl 1 rfl) ?_
            refine lv_iload_n S.1 S.2.1 dJ6_numberOfTrailingZeros_0f7a4_75 rfl (lv_at hl 0 rfl) ?_
            refine lv_iconst (v := (1)) S.1 S.2.1 dJ6_numberOfTrailingZeros_0f7a4_76 rfl ?_
            refine lv_iushr S.1 S.2.1 dJ6_numberOfTrailingZeros_0f7a4_77 (ushI_eq _ _) ?_
            refine lv_iadd S.1 S.2.1 dJ6_numberOfTrailingZeros_0f7a4_78 ?_
            exact s_iret S hr hlocks (by simp only [ntzI, ntzM, if_pos c9, nt1, if_pos c23, if_neg c38, if_pos c52, if_pos c64]) rfl dJ6_numberOfTrailingZeros_0f7a4_79
          · skip
            refine lv_iinc (k := 1) S.1 S.2.1 dJ6_numberOfTrailingZeros_0f7a4_67 hl rfl (inc_2 _) (by decide) rfl (fun ls hl => ?_)
            refine lv_iload_n S.1 S.2.1 dJ6_numberOfTrailingZeros_0f7a4_70 rfl (lv_at hl 1 rfl) ?_
            refine lv_iconst (v := (2)) S.1 S.2.1 dJ6_numberOfTrailingZeros_0f7a4_71 rfl ?_
            refine lv_iushr S.1 S.2.1 dJ6_numberOfTrailingZeros_0f7a4_72 (ushI_eq _ _) ?_
            refine lv_istore_n S.1 S.2.1 dJ6_numberOfTrailingZeros_0f7a4_73 rfl hl (by decide) rfl (fun ls hl => ?_)
            refine lv_iload_n S.1 S.2.1 dJ6_numberOfTrailingZeros_0f7a4_74 rfl (lv_at hl 1 rfl) ?_
            refine lv_iload_n S.1 S.2.1 dJ6_numberOfTrailingZeros_0f7a4_75 rfl (lv_at hl 0 rfl) ?_
            refine lv_iconst (v := (1)) S.1 S.2.1 dJ6_numberOfTrailingZeros_0f7a4_76 rfl ?_
            refine lv_iushr S.1 S.2.1 dJ6_numberOfTrailingZeros_0f7a4_77 (ushI_eq _ _) ?_
            refine lv_iadd S.1 S.2.1 dJ6_numberOfTrailingZeros_0f7a4_78 ?_
            exact s_iret S hr hlocks (by simp only [ntzI, ntzM, if_pos c9, nt1, if_pos c23, if_neg c38, if_pos c52, if_neg c64]) rfl dJ6_numberOfTrailingZeros_0f7a4_79
        · skip
          refine lv_iinc (k := 1) S.1 S.2.1 dJ6_numberOfTrailingZeros_0f7a4_55 hl rfl (inc_4 _) (by decide) rfl (fun ls hl => ?_)
          refine lv_iload_n S.1 S.2.1 dJ6_numberOfTrailingZeros_0f7a4_58 rfl (lv_at hl 1 rfl) ?_
          refine lv_iconst (v := (4)) S.1 S.2.1 dJ6_numberOfTrailingZeros_0f7a4_59 rfl ?_
          refine lv_iushr S.1 S.2.1 dJ6_numberOfTrailingZeros_0f7a4_60 (ushI_eq _ _) ?_
          refine lv_istore_n S.1 S.2.1 dJ6_numberOfTrailingZeros_0f7a4_61 rfl hl (by decide) rfl (fun ls hl => ?_)
          refine lv_iload_n S.1 S.2.1 dJ6_numberOfTrailingZeros_0f7a4_62 rfl (lv_at hl 0 rfl) ?_
          refine lv_iconst (v := (4)) S.1 S.2.1 dJ6_numberOfTrailingZeros_0f7a4_63 rfl ?_
          refine lv_icmp_le (tgt := 74) S.1 S.2.1 dJ6_numberOfTrailingZeros_0f7a4_64 (by decide) (fun c64 => ?_) (fun c64 => ?_)
          · skip
            refine lv_iload_n S.1 S.2.1 dJ6_numberOfTrailingZeros_0f7a4_74 rfl (lv_at hl 1 rfl) ?_
            refine lv_iload_n S.1 S.2.1 dJ6_numberOfTrailingZeros_0f7a4_75 rfl (lv_at hl 0 rfl) ?_
            refine lv_iconst (v := (1)) S.1 S.2.1 dJ6_numberOfTrailingZeros_0f7a4_76 rfl ?_
            refine lv_iushr S.1 S.2.1 dJ6_numberOfTrailingZeros_0f7a4_77 (ushI_eq _ _) ?_
            refine lv_iadd S.1 S.2.1 dJ6_numberOfTrailingZeros_0f7a4_78 ?_
            exact s_iret S hr hlocks (by simp only [ntzI, ntzM, if_pos c9, nt1, if_pos c23, if_neg c38, if_neg c52, if_pos c64]) rfl dJ6_numberOfTrailingZeros_0f7a4_79
          · skip
            refine lv_iinc (k := 1) S.1 S.2.1 dJ6_numberOfTrailingZeros_0f7a4_67 hl rfl (inc_2 _) (by decide) rfl (fun ls hl => ?_)
            refine lv_iload_n S.1 S.2.1 dJ6_numberOfTrailingZeros_0f7a4_70 rfl (lv_at hl 1 rfl) ?_
            refine lv_iconst (v := (2)) S.1 S.2.1 dJ6_numberOfTrailingZeros_0f7a4_71 rfl ?_
            refine lv_iushr S.1 S.2.1 dJ6_numberOfTrailingZeros_0f7a4_72 (ushI_eq _ _) ?_
            refine lv_istore_n S.1 S.2.1 dJ6_numberOfTrailingZeros_0f7a4_73 rfl hl (by decide) rfl (fun ls hl => ?_)
            refine lv_iload_n S.1 S.2.1 dJ6_numberOfTrailingZeros_0f7a4_74 rfl (lv_at hl 1 rfl) ?_
            refine lv_iload_n S.1 S.2.1 dJ6_numberOfTrailingZeros_0f7a4_75 rfl (lv_at hl 0 rfl) ?_
            refine lv_iconst (v := (1)) S.1 S.2.1 dJ6_numberOfTrailingZeros_0f7a4_76 rfl ?_
            refine lv_iushr S.1 S.2.1 dJ6_numberOfTrailingZeros_0f7a4_77 (ushI_eq _ _) ?_
            refine lv_iadd S.1 S.2.1 dJ6_numberOfTrailingZeros_0f7a4_78 ?_
            exact s_iret S hr hlocks (by simp only [ntzI, ntzM, if_pos c9, nt1, if_pos c23, if_neg c38, if_neg c52, if_neg c64]) rfl dJ6_numberOfTrailingZeros_0f7a4_79
    · skip
      refine lv_iinc (k := 0) S.1 S.2.1 dJ6_numberOfTrailingZeros_0f7a4_26 hl rfl (inc_16 _) (by decide) rfl (fun ls hl => ?_)
      refine lv_iload_n S.1 S.2.1 dJ6_numberOfTrailingZeros_0f7a4_29 rfl (lv_at hl 1 rfl) ?_
      refine lv_bipush (v := (16)) S.1 S.2.1 dJ6_numberOfTrailingZeros_0f7a4_30 rfl ?_
      refine lv_iushr S.1 S.2.1 dJ6_numberOfTrailingZeros_0f7a4_32 (ushI_eq _ _) ?_
      refine lv_istore_n S.1 S.2.1 dJ6_numberOfTrailingZeros_0f7a4_33 rfl hl (by decide) rfl (fun ls hl => ?_)
      refine lv_iload_n S.1 S.2.1 dJ6_numberOfTrailingZeros_0f7a4_34 rfl (lv_at hl 0 rfl) ?_
      refine lv_sipush (v := (256)) S.1 S.2.1 dJ6_numberOfTrailingZeros_0f7a4_35 rfl ?_
      refine lv_icmp_le (tgt := 49) S.1 S.2.1 dJ6_numberOfTrailingZeros_0f7a4_38 (by decide) (fun c38 => ?_) (fun c38 => ?_)
      · skip
        refine lv_iload_n S.1 S.2.1 dJ6_numberOfTrailingZeros_0f7a4_49 rfl (lv_at hl 0 rfl) ?_
        refine lv_bipush (v := (16)) S.1 S.2.1 dJ6_numberOfTrailingZeros_0f7a4_50 rfl ?_
        refine lv_icmp_le (tgt := 62) S.1 S.2.1 dJ6_numberOfTrailingZeros_0f7a4_52 (by decide) (fun c52 => ?_) (fun c52 => ?_)
        · skip
          refine lv_iload_n S.1 S.2.1 dJ6_numberOfTrailingZeros_0f7a4_62 rfl (lv_at hl 0 rfl) ?_
          refine lv_iconst (v := (4)) S.1 S.2.1 dJ6_numberOfTrailingZeros_0f7a4_63 rfl ?_
          refine lv_icmp_le (tgt := 74) S.1 S.2.1 dJ6_numberOfTrailingZeros_0f7a4_64 (by decide) (fun c64 => ?_) (fun c64 => ?_)
          · skip
            refine lv_iload_n S.1 S.2.1 dJ6_numberOfTrailingZeros_0f7a4_74 rfl (lv_at hl 1 rfl) ?_
            refine lv_iload_n S.1 S.2.1 dJ6_numberOfTrailingZeros_0f7a4_75 rfl (lv_at hl 0 rfl) ?_
            refine lv_iconst (v := (1)) S.1 S.2.1 dJ6_numberOfTrailingZeros_0f7a4_76 rfl ?_
            refine lv_iushr S.1 S.2.1 dJ6_numberOfTrailingZeros_0f7a4_77 (ushI_eq _ _) ?_
            refine lv_iadd S.1 S.2.1 dJ6_numberOfTrailingZeros_0f7a4_78 ?_
            exact s_iret S hr hlocks (by simp only [ntzI, ntzM, if_pos c9, nt1, if_neg c23, if_pos c38, if_pos c52, if_pos c64]) rfl dJ6_numberOfTrailingZeros_0f7a4_79
          · skip
            refine lv_iinc (k := 1) S.1 S.2.1 dJ6_numberOfTrailingZeros_0f7a4_67 hl rfl (inc_2 _) (by decide) rfl (fun ls hl => ?_)
            refine lv_iload_n S.1 S.2.1 dJ6_numberOfTrailingZeros_0f7a4_70 rfl (lv_at hl 1 rfl) ?_
            refine lv_iconst (v := (2)) S.1 S.2.1 dJ6_numberOfTrailingZeros_0f7a4_71 rfl ?_
            refine lv_iushr S.1 S.2.1 dJ6_numberOfTrailingZeros_0f7a4_72 (ushI_eq _ _) ?_
            refine lv_istore_n S.1 S.2.1 dJ6_numberOfTrailingZeros_0f7a4_73 rfl hl (by decide) rfl (fun ls hl => ?_)
            refine lv_iload_n S.1 S.2.1 dJ6_numberOfTrailingZeros_0f7a4_74 rfl (lv_at hl 1 rfl) ?_
            refine lv_iload_n S.1 S.2.1 dJ6_numberOfTrailingZeros_0f7a4_75 rfl (lv_at hl 0 rfl) ?_
            refine lv_iconst (v := (1)) S.1 S.2.1 dJ6_numberOfTrailingZeros_0f7a4_76 rfl ?_
            refine lv_iushr S.1 S.2.1 dJ6_numberOfTrailingZeros_0f7a4_77 (ushI_eq _ _) ?_
            refine lv_iadd S.1 S.2.1 dJ6_numberOfTrailingZeros_0f7a4_78 ?_
            exact s_iret S hr hlocks (by simp only [ntzI, ntzM, if_pos c9, nt1, if_neg c23, if_pos c38, if_pos c52, if_neg c64]) rfl dJ6_numberOfTrailingZeros_0f7a4_79
        · skip
          refine lv_iinc (k := 1) S.1 S.2.1 dJ6_numberOfTrailingZeros_0f7a4_55 hl rfl (inc_4 _) (by decide) rfl (fun ls hl => ?_)
          refine lv_iload_n S.1 S.2.1 dJ6_numberOfTrailingZeros_0f7a4_58 rfl (lv_at hl 1 rfl) ?_
          refine lv_iconst (v := (4)) S.1 S.2.1 dJ6_numberOfTrailingZeros_0f7a4_59 rfl ?_
          refine lv_iushr S.1 S.2.1 dJ6_numberOfTrailingZeros_0f7a4_60 (ushI_eq _ _) ?_
          refine lv_istore_n S.1 S.2.1 dJ6_numberOfTrailingZeros_0f7a4_61 rfl hl (by decide) rfl (fun ls hl => ?_)
          refine lv_iload_n S.1 S.2.1 dJ6_numberOfTrailingZeros_0f7a4_62 rfl (lv_at hl 0 rfl) ?_
          refine lv_iconst (v := (4)) S.1 S.2.1 dJ6_numberOfTrailingZeros_0f7a4_63 rfl ?_
          refine lv_icmp_le (tgt := 74) S.1 S.2.1 dJ6_numberOfTrailingZeros_0f7a4_64 (by decide) (fun c64 => ?_) (fun c64 => ?_)
          · skip
            refine lv_iload_n S.1 S.2.1 dJ6_numberOfTrailingZeros_0f7a4_74 rfl (lv_at hl 1 rfl) ?_
            refine lv_iload_n S.1 S.2.1 dJ6_numberOfTrailingZeros_0f7a4_75 rfl (lv_at hl 0 rfl) ?_
            refine lv_iconst (v := (1)) S.1 S.2.1 dJ6_numberOfTrailingZeros_0f7a4_76 rfl ?_
            refine lv_iushr S.1 S.2.1 dJ6_numberOfTrailingZeros_0f7a4_77 (ushI_eq _ _) ?_
            refine lv_iadd S.1 S.2.1 dJ6_numberOfTrailingZeros_0f7a4_78 ?_
            exact s_iret S hr hlocks (by simp only [ntzI, ntzM, if_pos c9, nt1, if_neg c23, if_pos c38, if_neg c52, if_pos c64]) rfl dJ6_numberOfTrailingZeros_0f7a4_79
          · skip
            refine lv_iinc (k := 1) S.1 S.2.1 dJ6_numberOfTrailingZeros_0f7a4_67 hl rfl (inc_2 _) (by decide) rfl (fun ls hl => ?_)
            refine lv_iload_n S.1 S.2.1 dJ6_numberOfTrailingZeros_0f7a4_70 rfl (lv_at hl 1 rfl) ?_
            refine lv_iconst (v := (2)) S.1 S.2.1 dJ6_numberOfTrailingZeros_0f7a4_71 rfl ?_
            refine lv_iushr S.1 S.2.1 dJ6_numberOfTrailingZeros_0f7a4_72 (ushI_eq _ _) ?_
            refine lv_istore_n S.1 S.2.1 dJ6_numberOfTrailingZeros_0f7a4_73 rfl hl (by decide) rfl (fun ls hl => ?_)
            refine lv_iload_n S.1 S.2.1 dJ6_numberOfTrailingZeros_0f7a4_74 rfl (lv_at hl 1 rfl) ?_
            refine lv_iload_n S.1 S.2.1 dJ6_numberOfTrailingZeros_0f7a4_75 rfl (lv_at hl 0 rfl) ?_
            refine lv_iconst (v := (1)) S.1 S.2.1 dJ6_numberOfTrailingZeros_0f7a4_76 rfl ?_
            refine lv_iushr S.1 S.2.1 dJ6_numberOfTrailingZeros_0f7a4_77 (ushI_eq _ _) ?_
            refine lv_iadd S.1 S.2.1 dJ6_numberOfTrailingZeros_0f7a4_78 ?_
            exact s_iret S hr hlocks (by simp only [ntzI, ntzM, if_pos c9, nt1, if_neg c23, if_pos c38, if_neg c52, if_neg c64]) rfl dJ6_numberOfTrailingZeros_0f7a4_79
      · skip
        refine lv_iinc (k := 1) S.1 S.2.1 dJ6_numberOfTrailingZeros_0f7a4_41 hl rfl (inc_8 _) (by decide) rfl (fun ls hl => ?_)
        refine lv_iload_n S.1 S.2.1 dJ6_numberOfTrailingZeros_0f7a4_44 rfl (lv_at hl 1 rfl) ?_
        refine lv_bipush (v := (8)) S.1 S.2.1 dJ6_numberOfTrailingZeros_0f7a4_45 rfl ?_
        refine lv_iushr S.1 S.2.1 dJ6_numberOfTrailingZeros_0f7a4_47 (ushI_eq _ _) ?_
        refine lv_istore_n S.1 S.2.1 dJ6_numberOfTrailingZeros_0f7a4_48 rfl hl (by decide) rfl (fun ls hl => ?_)
        refine lv_iload_n S.1 S.2.1 dJ6_numberOfTrailingZeros_0f7a4_49 rfl (lv_at hl 0 rfl) ?_
        refine lv_bipush (v := (16)) S.1 S.2.1 dJ6_numberOfTrailingZeros_0f7a4_50 rfl ?_
        refine lv_icmp_le (tgt := 62) S.1 S.2.1 dJ6_numberOfTrailingZeros_0f7a4_52 (by decide) (fun c52 => ?_) (fun c52 => ?_)
        · skip
          refine lv_iload_n S.1 S.2.1 dJ6_numberOfTrailingZeros_0f7a4_62 rfl (lv_at hl 0 rfl) ?_
          refine lv_iconst (v := (4)) S.1 S.2.1 dJ6_numberOfTrailingZeros_0f7a4_63 rfl ?_
          refine lv_icmp_le (tgt := 74) S.1 S.2.1 dJ6_numberOfTrailingZeros_0f7a4_64 (by decide) (fun c64 => ?_) (fun c64 => ?_)
          · skip
            refine lv_iload_n S.1 S.2.1 dJ6_numberOfTrailingZeros_0f7a4_74 rfl (lv_at hl 1 rfl) ?_
            refine lv_iload_n S.1 S.2.1 dJ6_numberOfTrailingZeros_0f7a4_75 rfl (lv_at hl 0 rfl) ?_
            refine lv_iconst (v := (1)) S.1 S.2.1 dJ6_numberOfTrailingZeros_0f7a4_76 rfl ?_
            refine lv_iushr S.1 S.2.1 dJ6_numberOfTrailingZeros_0f7a4_77 (ushI_eq _ _) ?_
            refine lv_iadd S.1 S.2.1 dJ6_numberOfTrailingZeros_0f7a4_78 ?_
            exact s_iret S hr hlocks (by simp only [ntzI, ntzM, if_pos c9, nt1, if_neg c23, if_neg c38, if_pos c52, if_pos c64]) rfl dJ6_numberOfTrailingZeros_0f7a4_79
          · skip
            refine lv_iinc (k := 1) S.1 S.2.1 dJ6_numberOfTrailingZeros_0f7a4_67 hl rfl (inc_2 _) (by decide) rfl (fun ls hl => ?_)
            refine lv_iload_n S.1 S.2.1 dJ6_numberOfTrailingZeros_0f7a4_70 rfl (lv_at hl 1 rfl) ?_
            refine lv_iconst (v := (2)) S.1 S.2.1 dJ6_numberOfTrailingZeros_0f7a4_71 rfl ?_
            refine lv_iushr S.1 S.2.1 dJ6_numberOfTrailingZeros_0f7a4_72 (ushI_eq _ _) ?_
            refine lv_istore_n S.1 S.2.1 dJ6_numberOfTrailingZeros_0f7a4_73 rfl hl (by decide) rfl (fun ls hl => ?_)
            refine lv_iload_n S.1 S.2.1 dJ6_numberOfTrailingZeros_0f7a4_74 rfl (lv_at hl 1 rfl) ?_
            refine lv_iload_n S.1 S.2.1 dJ6_numberOfTrailingZeros_0f7a4_75 rfl (lv_at hl 0 rfl) ?_
            refine lv_iconst (v := (1)) S.1 S.2.1 dJ6_numberOfTrailingZeros_0f7a4_76 rfl ?_
            refine lv_iushr S.1 S.2.1 dJ6_numberOfTrailingZeros_0f7a4_77 (ushI_eq _ _) ?_
            refine lv_iadd S.1 S.2.1 dJ6_numberOfTrailingZeros_0f7a4_78 ?_
            exact s_iret S hr hlocks (by simp only [ntzI, ntzM, if_pos c9, nt1, if_neg c23, if_neg c38, if_pos c52, if_neg c64]) rfl dJ6_numberOfTrailingZeros_0f7a4_79
        · skip
          refine lv_iinc (k := 1) S.1 S.2.1 dJ6_numberOfTrailingZeros_0f7a4_55 hl rfl (inc_4 _) (by decide) rfl (fun ls hl => ?_)
          refine lv_iload_n S.1 S.2.1 dJ6_numberOfTrailingZeros_0f7a4_58 rfl (lv_at hl 1 rfl) ?_
          refine lv_iconst (v := (4)) S.1 S.2.1 dJ6_numberOfTrailingZeros_0f7a4_59 rfl ?_
          refine lv_iushr S.1 S.2.1 dJ6_numberOfTrailingZeros_0f7a4_60 (ushI_eq _ _) ?_
          refine lv_istore_n S.1 S.2.1 dJ6_numberOfTrailingZeros_0f7a4_61 rfl hl (by decide) rfl (fun ls hl => ?_)
          refine lv_iload_n S.1 S.2.1 dJ6_numberOfTrailingZeros_0f7a4_62 rfl (lv_at hl 0 rfl) ?_
          refine lv_iconst (v := (4)) S.1 S.2.1 dJ6_numberOfTrailingZeros_0f7a4_63 rfl ?_
          refine lv_icmp_le (tgt := 74) S.1 S.2.1 dJ6_numberOfTrailingZeros_0f7a4_64 (by decide) (fun c64 => ?_) (fun c64 => ?_)
          · skip
            refine lv_iload_n S.1 S.2.1 dJ6_numberOfTrailingZeros_0f7a4_74 rfl (lv_at hl 1 rfl) ?_
            refine lv_iload_n S.1 S.2.1 dJ6_numberOfTrailingZeros_0f7a4_75 rfl (lv_at hl 0 rfl) ?_
            refine lv_iconst (v := (1)) S.1 S.2.1 dJ6_numberOfTrailingZeros_0f7a4_76 rfl ?_
            refine lv_iushr S.1 S.2.1 dJ6_numberOfTrailingZeros_0f7a4_77 (ushI_eq _ _) ?_
            refine lv_iadd S.1 S.2.1 dJ6_numberOfTrailingZeros_0f7a4_78 ?_
            exact s_iret S hr hlocks (by simp only [ntzI, ntzM, if_pos c9, nt1, if_neg c23, if_neg c38, if_neg c52, if_pos c64]) rfl dJ6_numberOfTrailingZeros_0f7a4_79
          · skip
            refine lv_iinc (k := 1) S.1 S.2.1 dJ6_numberOfTrailingZeros_0f7a4_67 hl rfl (inc_2 _) (by decide) rfl (fun ls hl => ?_)
            refine lv_iload_n S.1 S.2.1 dJ6_numberOfTrailingZeros_0f7a4_70 rfl (lv_at hl 1 rfl) ?_
            refine lv_iconst (v := (2)) S.1 S.2.1 dJ6_numberOfTrailingZeros_0f7a4_71 rfl ?_
            refine lv_iushr S.1 S.2.1 dJ6_numberOfTrailingZeros_0f7a4_72 (ushI_eq _ _) ?_
            refine lv_istore_n S.1 S.2.1 dJ6_numberOfTrailingZeros_0f7a4_73 rfl hl (by decide) rfl (fun ls hl => ?_)
            refine lv_iload_n S.1 S.2.1 dJ6_numberOfTrailingZeros_0f7a4_74 rfl (lv_at hl 1 rfl) ?_
            refine lv_iload_n S.1 S.2.1 dJ6_numberOfTrailingZeros_0f7a4_75 rfl (lv_at hl 0 rfl) ?_
            refine lv_iconst (v := (1)) S.1 S.2.1 dJ6_numberOfTrailingZeros_0f7a4_76 rfl ?_
            refine lv_iushr S.1 S.2.1 dJ6_numberOfTrailingZeros_0f7a4_77 (ushI_eq _ _) ?_
            refine lv_iadd S.1 S.2.1 dJ6_numberOfTrailingZeros_0f7a4_78 ?_
            exact s_iret S hr hlocks (by simp only [ntzI, ntzM, if_pos c9, nt1, if_neg c23, if_neg c38, if_neg c52, if_neg c64]) rfl dJ6_numberOfTrailingZeros_0f7a4_79
  · skip
    refine lv_iload_n S.1 S.2.1 dJ6_numberOfTrailingZeros_0f7a4_12 rfl (lv_at hl 0 rfl) ?_
    refine lv_bipush (v := (32)) S.1 S.2.1 dJ6_numberOfTrailingZeros_0f7a4_13 rfl ?_
    refine lv_iand S.1 S.2.1 dJ6_numberOfTrailingZeros_0f7a4_15 ?_
    exact s_iret S hr hlocks (by rw [ntzI, ntzM, if_neg c9]) rfl dJ6_numberOfTrailingZeros_0f7a4_16
set_option maxRecDepth 100000 in
set_option maxHeartbeats 4000000 in
theorem c_J13_bitCount_95d88 (l : Launch) (v : Int64) : MSi l yJ13_bitCount_95d88 cJ13_bitCount_95d88 2 (some .int) (rmL 1 0 0) [.long v] (fun r => r = popL v) := by
  refine s_enter (by decide) (Nat.le_of_ble_eq_true rfl) ?_
  intro p e s m below meth c ls S hr hlocks hl
  refine lv_lload_n S.1 S.2.1 dJ13_bitCount_95d88_0 rfl (lv_at hl 0 rfl) ?_
  refine lv_lload_n S.1 S.2.1 dJ13_bitCount_95d88_1 rfl (lv_at hl 0 rfl) ?_
  refine lv_iconst (v := (1)) S.1 S.2.1 dJ13_bitCount_95d88_2 rfl ?_
  refine lv_lushr S.1 S.2.1 dJ13_bitCount_95d88_3 (ushL_eq _ _) ?_
  refine lv_ldc2 S.1 S.2.1 S.2.2.2.1 (S.2.2.2.2 _ w_135) dJ13_bitCount_95d88_4 ?_
  refine lv_land S.1 S.2.1 dJ13_bitCount_95d88_7 ?_
  refine lv_lsub S.1 S.2.1 dJ13_bitCount_95d88_8 ?_
  refine lv_lstore_n S.1 S.2.1 dJ13_bitCount_95d88_9 rfl hl (by decide) rfl (fun ls hl => ?_)
  refine lv_lload_n S.1 S.2.1 dJ13_bitCount_95d88_10 rfl (lv_at hl 0 rfl) ?_
  refine lv_ldc2 S.1 S.2.1 S.2.2.2.1 (S.2.2.2.2 _ w_136) dJ13_bitCount_95d88_11 ?_
  refine lv_land S.1 S.2.1 dJ13_bitCount_95d88_14 ?_
  refine lv_lload_n S.1 S.2.1 dJ13_bitCount_95d88_15 rfl (lv_at hl 0 rfl) ?_
  refine lv_iconst (v := (2)) S.1 S.2.1 dJ13_bitCount_95d88_16 rfl ?_
  refine lv_lushr S.1 S.2.1 dJ13_bitCount_95d88_17 (ushL_eq _ _) ?_
  refine lv_ldc2 S.1 S.2.1 S.2.2.2.1 (S.2.2.2.2 _ w_136) dJ13_bitCount_95d88_18 ?_
  refine lv_land S.1 S.2.1 dJ13_bitCount_95d88_21 ?_
  refine lv_ladd S.1 S.2.1 dJ13_bitCount_95d88_22 ?_
  refine lv_lstore_n S.1 S.2.1 dJ13_bitCount_95d88_23 rfl hl (by decide) rfl (fun ls hl => ?_)
  refine lv_lload_n S.1 S.2.1 dJ13_bitCount_95d88_24 rfl (lv_at hl 0 rfl) ?_
  refine lv_lload_n S.1 S.2.1 dJ13_bitCount_95d88_25 rfl (lv_at hl 0 rfl) ?_
  refine lv_iconst (v := (4)) S.1 S.2.1 dJ13_bitCount_95d88_26 rfl ?_
  refine lv_lushr S.1 S.2.1 dJ13_bitCount_95d88_27 (ushL_eq _ _) ?_
  refine lv_ladd S.1 S.2.1 dJ13_bitCount_95d88_28 ?_
  refine lv_ldc2 S.1 S.2.1 S.2.2.2.1 (S.2.2.2.2 _ w_137) dJ13_bitCount_95d88_29 ?_
  refine lv_land S.1 S.2.1 dJ13_bitCount_95d88_32 ?_
  refine lv_lstore_n S.1 S.2.1 dJ13_bitCount_95d88_33 rfl hl (by decide) rfl (fun ls hl => ?_)
  refine lv_lload_n S.1 S.2.1 dJ13_bitCount_95d88_34 rfl (lv_at hl 0 rfl) ?_
  refine lv_lload_n S.1 S.2.1 dJ13_bitCount_95d88_35 rfl (lv_at hl 0 rfl) ?_
  refine lv_bipush (v := (8)) S.1 S.2.1 dJ13_bitCount_95d88_36 rfl ?_
  refine lv_lushr S.1 S.2.1 dJ13_bitCount_95d88_38 (ushL_eq _ _) ?_
  refine lv_ladd S.1 S.2.1 dJ13_bitCount_95d88_39 ?_
  refine lv_lstore_n S.1 S.2.1 dJ13_bitCount_95d88_40 rfl hl (by decide) rfl (fun ls hl => ?_)
  refine lv_lload_n S.1 S.2.1 dJ13_bitCount_95d88_41 rfl (lv_at hl 0 rfl) ?_
  refine lv_lload_n S.1 S.2.1 dJ13_bitCount_95d88_42 rfl (lv_at hl 0 rfl) ?_
  refine lv_bipush (v := (16)) S.1 S.2.1 dJ13_bitCount_95d88_43 rfl ?_
  refine lv_lushr S.1 S.2.1 dJ13_bitCount_95d88_45 (ushL_eq _ _) ?_
  refine lv_ladd S.1 S.2.1 dJ13_bitCount_95d88_46 ?_
  refine lv_lstore_n S.1 S.2.1 dJ13_bitCount_95d88_47 rfl hl (by decide) rfl (fun ls hl => ?_)
  refine lv_lload_n S.1 S.2.1 dJ13_bitCount_95d88_48 rfl (lv_at hl 0 rfl) ?_
  refine lv_lload_n S.1 S.2.1 dJ13_bitCount_95d88_49 rfl (lv_at hl 0 rfl) ?_
  refine lv_bipush (v := (32)) S.1 S.2.1 dJ13_bitCount_95d88_50 rfl ?_
  refine lv_lushr S.1 S.2.1 dJ13_bitCount_95d88_52 (ushL_eq _ _) ?_
  refine lv_ladd S.1 S.2.1 dJ13_bitCount_95d88_53 ?_
  refine lv_lstore_n S.1 S.2.1 dJ13_bitCount_95d88_54 rfl hl (by decide) rfl (fun ls hl => ?_)
  refine lv_lload_n S.1 S.2.1 dJ13_bitCount_95d88_55 rfl (lv_at hl 0 rfl) ?_
  refine lv_l2i S.1 S.2.1 dJ13_bitCount_95d88_56 rfl ?_
  refine lv_bipush (v := (127)) S.1 S.2.1 dJ13_bitCount_95d88_57 rfl ?_
  refine lv_iand S.1 S.2.1 dJ13_bitCount_95d88_59 ?_
  exact s_iret S hr hlocks rfl rfl dJ13_bitCount_95d88_60
set_option maxRecDepth 100000 in
set_option maxHeartbeats 4000000 in
theorem c_J13_numberOfTrailingZeros_95d88 (l : Launch) (v : Int64) : MSi l yJ13_numberOfTrailingZeros_95d88 cJ13_numberOfTrailingZeros_95d88 3 (some .int) (rmL 2 0 0) [.long v] (fun r => r = ntzL v) := by
  refine s_enter (by decide) (Nat.le_of_ble_eq_true rfl) ?_
  intro p e s m below meth c ls S hr hlocks hl
  refine lv_lload_n S.1 S.2.1 dJ13_numberOfTrailingZeros_95d88_0 rfl (lv_at hl 0 rfl) ?_
  refine lv_l2i S.1 S.2.1 dJ13_numberOfTrailingZeros_95d88_1 rfl ?_
  refine lv_istore_n S.1 S.2.1 dJ13_numberOfTrailingZeros_95d88_2 rfl hl (by decide) rfl (fun ls hl => ?_)
  refine lv_iload_n S.1 S.2.1 dJ13_numberOfTrailingZeros_95d88_3 rfl (lv_at hl 0 rfl) ?_
  refine lv_if_ne (tgt := 21) S.1 S.2.1 dJ13_numberOfTrailingZeros_95d88_4 (by decide) (fun c4 => ?_) (fun c4 => ?_)
  · skip
    refine lv_iload_n S.1 S.2.1 dJ13_numberOfTrailingZeros_95d88_21 rfl (lv_at hl 0 rfl) ?_
    refine s_calli S (c_J6_numberOfTrailingZeros_0f7a4 l _) cw_RJ13_J6_numberOfTrailingZeros_0f7a4 ⟨rfl, rfl, by decide, by decide⟩ rfl hl.1 rfl (Nat.le_of_ble_eq_true rfl) dJ13_numberOfTrailingZeros_95d88_22 ⟨(Nat.le_of_ble_eq_true rfl), (Nat.le_of_ble_eq_true rfl)⟩ (fun r22 hp => ?_)
    subst hp
    exact s_iret S hr hlocks (by rw [ntzL, if_neg c4]) rfl dJ13_numberOfTrailingZeros_95d88_25
  · skip
    refine lv_bipush (v := (32)) S.1 S.2.1 dJ13_numberOfTrailingZeros_95d88_7 rfl ?_
    refine lv_lload_n S.1 S.2.1 dJ13_numberOfTrailingZeros_95d88_9 rfl (lv_at hl 1 rfl) ?_
    refine lv_bipush (v := (32)) S.1 S.2.1 dJ13_numberOfTrailingZeros_95d88_10 rfl ?_
    refine lv_lushr S.1 S.2.1 dJ13_numberOfTrailingZeros_95d88_12 (ushL_eq _ _) ?_
    refine lv_l2i S.1 S.2.1 dJ13_numberOfTrailingZeros_95d88_13 rfl ?_
    refine s_calli S (c_J6_numberOfTrailingZeros_0f7a4 l _) cw_RJ13_J6_numberOfTrailingZeros_0f7a4 ⟨rfl, rfl, by decide, by decide⟩ rfl hl.1 rfl (Nat.le_of_ble_eq_true rfl) dJ13_numberOfTrailingZeros_95d88_14 ⟨(Nat.le_of_ble_eq_true rfl), (Nat.le_of_ble_eq_true rfl)⟩ (fun r14 hp => ?_)
    subst hp
    refine lv_iadd S.1 S.2.1 dJ13_numberOfTrailingZeros_95d88_17 ?_
    refine lv_goto (tgt := 25) S.1 S.2.1 dJ13_numberOfTrailingZeros_95d88_18 (by decide) ?_
    exact s_iret S hr hlocks (by rw [ntzL, if_pos c4]) rfl dJ13_numberOfTrailingZeros_95d88_25
