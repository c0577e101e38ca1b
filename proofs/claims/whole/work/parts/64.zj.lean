/-- what count answers on a new object -/
def zcnt (w : Int32) : Int32 := if w = 0 then 0 else if w = 1 then 1 else if w = 2 then 1 else if w = 3 then 1 else if w = 4 then 1 else if w = 5 then 1 else if w = 6 then 0 else if w = 7 then 1 else -1
theorem w_209 : (.fieldLink "ZoneAnswers$Zone" 133 "ZoneAnswers$Owner" "sets" "Ljava/util/ArrayList;" : Cond) ∈ zw := zw_at 209 (by decide +kernel) (by decide +kernel)
theorem w_717 : (.methodLink "ZoneAnswers" 148 ⟨"ZoneAnswers$Zone", "serialNumber", "()I"⟩ : Cond) ∈ zw := zw_at 717 (by decide +kernel) (by decide +kernel)
theorem w_718 : (.instanceMethod ⟨"ZoneAnswers$Zone", "serialNumber", "()I"⟩ : Cond) ∈ zw := zw_at 718 (by decide +kernel) (by decide +kernel)
theorem w_719 : (.selects "ZoneAnswers$Zone" ⟨"ZoneAnswers$Zone", "serialNumber", "()I"⟩ ⟨"ZoneAnswers$Zone", "serialNumber", "()I"⟩ : Cond) ∈ zw := zw_at 719 (by decide +kernel) (by decide +kernel)
theorem w_720 : (.code ⟨"ZoneAnswers$Zone", "serialNumber", "()I"⟩ prog_10_method_6_code 1 (some .int) : Cond) ∈ zw := zw_at 720 (by decide +kernel) (by decide +kernel)
theorem w_724 : (.methodLink "ZoneAnswers" 151 ⟨"ZoneAnswers$Zone", "changeSerial", "(I)V"⟩ : Cond) ∈ zw := zw_at 724 (by decide +kernel) (by decide +kernel)
theorem w_733 : (.methodLink "ZoneAnswers" 212 ⟨"ZoneAnswers$Zone", "recordCount", "()I"⟩ : Cond) ∈ zw := zw_at 733 (by decide +kernel) (by decide +kernel)
theorem w_734 : (.instanceMethod ⟨"ZoneAnswers$Zone", "recordCount", "()I"⟩ : Cond) ∈ zw := zw_at 734 (by decide +kernel) (by decide +kernel)
theorem w_735 : (.selects "ZoneAnswers$Zone" ⟨"ZoneAnswers$Zone", "recordCount", "()I"⟩ ⟨"ZoneAnswers$Zone", "recordCount", "()I"⟩ : Cond) ∈ zw := zw_at 735 (by decide +kernel) (by decide +kernel)
theorem w_736 : (.code ⟨"ZoneAnswers$Zone", "recordCount", "()I"⟩ prog_10_method_26_code 1 (some .int) : Cond) ∈ zw := zw_at 736 (by decide +kernel) (by decide +kernel)
theorem w_737 : (.methodLink "ZoneAnswers" 215 ⟨"ZoneAnswers$Zone", "setCount", "()I"⟩ : Cond) ∈ zw := zw_at 737 (by decide +kernel) (by decide +kernel)
theorem w_738 : (.instanceMethod ⟨"ZoneAnswers$Zone", "setCount", "()I"⟩ : Cond) ∈ zw := zw_at 738 (by decide +kernel) (by decide +kernel)
theorem w_739 : (.selects "ZoneAnswers$Zone" ⟨"ZoneAnswers$Zone", "setCount", "()I"⟩ ⟨"ZoneAnswers$Zone", "setCount", "()I"⟩ : Cond) ∈ zw := zw_at 739 (by decide +kernel) (by decide +kernel)
theorem w_740 : (.code ⟨"ZoneAnswers$Zone", "setCount", "()I"⟩ prog_10_method_27_code 3 (some .int) : Cond) ∈ zw := zw_at 740 (by decide +kernel) (by decide +kernel)
theorem w_741 : (.methodLink "ZoneAnswers" 218 ⟨"ZoneAnswers$Zone", "ownerCount", "()I"⟩ : Cond) ∈ zw := zw_at 741 (by decide +kernel) (by decide +kernel)
theorem w_742 : (.instanceMethod ⟨"ZoneAnswers$Zone", "ownerCount", "()I"⟩ : Cond) ∈ zw := zw_at 742 (by decide +kernel) (by decide +kernel)
theorem w_743 : (.selects "ZoneAnswers$Zone" ⟨"ZoneAnswers$Zone", "ownerCount", "()I"⟩ ⟨"ZoneAnswers$Zone", "ownerCount", "()I"⟩ : Cond) ∈ zw := zw_at 743 (by decide +kernel) (by decide +kernel)
theorem w_744 : (.code ⟨"ZoneAnswers$Zone", "ownerCount", "()I"⟩ prog_10_method_28_code 1 (some .int) : Cond) ∈ zw := zw_at 744 (by decide +kernel) (by decide +kernel)
theorem w_745 : (.methodLink "ZoneAnswers" 221 ⟨"ZoneAnswers$Zone", "thereCount", "()I"⟩ : Cond) ∈ zw := zw_at 745 (by decide +kernel) (by decide +kernel)
theorem w_746 : (.instanceMethod ⟨"ZoneAnswers$Zone", "thereCount", "()I"⟩ : Cond) ∈ zw := zw_at 746 (by decide +kernel) (by decide +kernel)
theorem w_747 : (.selects "ZoneAnswers$Zone" ⟨"ZoneAnswers$Zone", "thereCount", "()I"⟩ ⟨"ZoneAnswers$Zone", "thereCount", "()I"⟩ : Cond) ∈ zw := zw_at 747 (by decide +kernel) (by decide +kernel)
theorem w_748 : (.code ⟨"ZoneAnswers$Zone", "thereCount", "()I"⟩ prog_10_method_29_code 4 (some .int) : Cond) ∈ zw := zw_at 748 (by decide +kernel) (by decide +kernel)
theorem w_753 : (.methodLink "ZoneAnswers" 224 ⟨"ZoneAnswers$Zone", "chainCount", "()I"⟩ : Cond) ∈ zw := zw_at 753 (by decide +kernel) (by decide +kernel)
theorem w_754 : (.instanceMethod ⟨"ZoneAnswers$Zone", "chainCount", "()I"⟩ : Cond) ∈ zw := zw_at 754 (by decide +kernel) (by decide +kernel)
theorem w_755 : (.selects "ZoneAnswers$Zone" ⟨"ZoneAnswers$Zone", "chainCount", "()I"⟩ ⟨"ZoneAnswers$Zone", "chainCount", "()I"⟩ : Cond) ∈ zw := zw_at 755 (by decide +kernel) (by decide +kernel)
theorem w_756 : (.code ⟨"ZoneAnswers$Zone", "chainCount", "()I"⟩ prog_10_method_30_code 3 (some .int) : Cond) ∈ zw := zw_at 756 (by decide +kernel) (by decide +kernel)
theorem w_757 : (.methodLink "ZoneAnswers$Zone" 163 ⟨"ZoneAnswers$Owner", "isGivenAway", "()Z"⟩ : Cond) ∈ zw := zw_at 757 (by decide +kernel) (by decide +kernel)
theorem w_758 : (.instanceMethod ⟨"ZoneAnswers$Owner", "isGivenAway", "()Z"⟩ : Cond) ∈ zw := zw_at 758 (by decide +kernel) (by decide +kernel)
theorem w_759 : (.selects "ZoneAnswers$Owner" ⟨"ZoneAnswers$Owner", "isGivenAway", "()Z"⟩ ⟨"ZoneAnswers$Owner", "isGivenAway", "()Z"⟩ : Cond) ∈ zw := zw_at 759 (by decide +kernel) (by decide +kernel)
theorem w_760 : (.code ⟨"ZoneAnswers$Owner", "isGivenAway", "()Z"⟩ prog_5_method_3_code 1 (some .boolean) : Cond) ∈ zw := zw_at 760 (by decide +kernel) (by decide +kernel)
theorem w_761 : (.methodLink "ZoneAnswers" 227 ⟨"ZoneAnswers$Zone", "cutCount", "()I"⟩ : Cond) ∈ zw := zw_at 761 (by decide +kernel) (by decide +kernel)
theorem w_762 : (.instanceMethod ⟨"ZoneAnswers$Zone", "cutCount", "()I"⟩ : Cond) ∈ zw := zw_at 762 (by decide +kernel) (by decide +kernel)
theorem w_763 : (.selects "ZoneAnswers$Zone" ⟨"ZoneAnswers$Zone", "cutCount", "()I"⟩ ⟨"ZoneAnswers$Zone", "cutCount", "()I"⟩ : Cond) ∈ zw := zw_at 763 (by decide +kernel) (by decide +kernel)
theorem w_764 : (.code ⟨"ZoneAnswers$Zone", "cutCount", "()I"⟩ prog_10_method_31_code 3 (some .int) : Cond) ∈ zw := zw_at 764 (by decide +kernel) (by decide +kernel)
abbrev c_Zo_setCount : ByteArray := prog_10_method_27_code
abbrev y_Zo_setCount : MethodName := ⟨"ZoneAnswers$Zone", "setCount", "()I"⟩
theorem d_Zo_setCount_0 : decode c_Zo_setCount 0 = .ok (.iconst 0, 1) := by decide +kernel
theorem d_Zo_setCount_1 : decode c_Zo_setCount 1 = .ok (.istore_n 1, 1) := by decide +kernel
theorem d_Zo_setCount_2 : decode c_Zo_setCount 2 = .ok (.iconst 0, 1) := by decide +kernel
theorem d_Zo_setCount_3 : decode c_Zo_setCount 3 = .ok (.istore_n 2, 1) := by decide +kernel
theorem d_Zo_setCount_4 : decode c_Zo_setCount 4 = .ok (.iload_n 2, 1) := by decide +kernel
theorem d_Zo_setCount_5 : decode c_Zo_setCount 5 = .ok (.aload_n 0, 1) := by decide +kernel
theorem d_Zo_setCount_6 : decode c_Zo_setCount 6 = .ok (.getfield 12, 3) := by decide +kernel
theorem d_Zo_setCount_9 : decode c_Zo_setCount 9 = .ok (.invokevirtual 75, 3) := by decide +kernel
theorem d_Zo_setCount_12 : decode c_Zo_setCount 12 = .ok (.if_icmp .ge 29, 3) := by decide +kernel
theorem d_Zo_setCount_15 : decode c_Zo_setCount 15 = .ok (.iload_n 1, 1) := by decide +kernel
theorem d_Zo_setCount_16 : decode c_Zo_setCount 16 = .ok (.aload_n 0, 1) := by decide +kernel
theorem d_Zo_setCount_17 : decode c_Zo_setCount 17 = .ok (.getfield 12, 3) := by decide +kernel
theorem d_Zo_setCount_20 : decode c_Zo_setCount 20 = .ok (.iload_n 2, 1) := by decide +kernel
theorem d_Zo_setCount_21 : decode c_Zo_setCount 21 = .ok (.invokevirtual 79, 3) := by decide +kernel
theorem d_Zo_setCount_24 : decode c_Zo_setCount 24 = .ok (.checkcast 83, 3) := by decide +kernel
theorem d_Zo_setCount_27 : decode c_Zo_setCount 27 = .ok (.getfield 133, 3) := by decide +kernel
theorem d_Zo_setCount_30 : decode c_Zo_setCount 30 = .ok (.invokevirtual 75, 3) := by decide +kernel
theorem d_Zo_setCount_33 : decode c_Zo_setCount 33 = .ok (.iadd, 1) := by decide +kernel
theorem d_Zo_setCount_34 : decode c_Zo_setCount 34 = .ok (.istore_n 1, 1) := by decide +kernel
theorem d_Zo_setCount_35 : decode c_Zo_setCount 35 = .ok (.iinc 2 1, 3) := by decide +kernel
theorem d_Zo_setCount_38 : decode c_Zo_setCount 38 = .ok (.goto (-34), 3) := by decide +kernel
theorem d_Zo_setCount_41 : decode c_Zo_setCount 41 = .ok (.iload_n 1, 1) := by decide +kernel
theorem d_Zo_setCount_42 : decode c_Zo_setCount 42 = .ok (.ireturn, 1) := by decide +kernel
abbrev c_Zo_thereCount : ByteArray := prog_10_method_29_code
abbrev y_Zo_thereCount : MethodName := ⟨"ZoneAnswers$Zone", "thereCount", "()I"⟩
theorem d_Zo_thereCount_0 : decode c_Zo_thereCount 0 = .ok (.iconst 1, 1) := by decide +kernel
theorem d_Zo_thereCount_1 : decode c_Zo_thereCount 1 = .ok (.istore_n 1, 1) := by decide +kernel
theorem d_Zo_thereCount_2 : decode c_Zo_thereCount 2 = .ok (.iconst 1, 1) := by decide +kernel
theorem d_Zo_thereCount_3 : decode c_Zo_thereCount 3 = .ok (.istore_n 2, 1) := by decide +kernel
theorem d_Zo_thereCount_4 : decode c_Zo_thereCount 4 = .ok (.iload_n 2, 1) := by decide +kernel
theorem d_Zo_thereCount_5 : decode c_Zo_thereCount 5 = .ok (.aload_n 0, 1) := by decide +kernel
theorem d_Zo_thereCount_6 : decode c_Zo_thereCount 6 = .ok (.getfield 12, 3) := by decide +kernel
theorem d_Zo_thereCount_9 : decode c_Zo_thereCount 9 = .ok (.invokevirtual 75, 3) := by decide +kernel
theorem d_Zo_thereCount_12 : decode c_Zo_thereCount 12 = .ok (.if_icmp .ge 52, 3) := by decide +kernel
theorem d_Zo_thereCount_15 : decode c_Zo_thereCount 15 = .ok (.aload_n 0, 1) := by decide +kernel
theorem d_Zo_thereCount_16 : decode c_Zo_thereCount 16 = .ok (.getfield 12, 3) := by decide +kernel
theorem d_Zo_thereCount_19 : decode c_Zo_thereCount 19 = .ok (.iload_n 2, 1) := by decide +kernel
theorem d_Zo_thereCount_20 : decode c_Zo_thereCount 20 = .ok (.invokevirtual 79, 3) := by decide +kernel
theorem d_Zo_thereCount_23 : decode c_Zo_thereCount 23 = .ok (.checkcast 83, 3) := by decide +kernel
theorem d_Zo_thereCount_26 : decode c_Zo_thereCount 26 = .ok (.getfield 85, 3) := by decide +kernel
theorem d_Zo_thereCount_29 : decode c_Zo_thereCount 29 = .ok (.astore_n 3, 1) := by decide +kernel
theorem d_Zo_thereCount_30 : decode c_Zo_thereCount 30 = .ok (.iload_n 1, 1) := by decide +kernel
theorem d_Zo_thereCount_31 : decode c_Zo_thereCount 31 = .ok (.aload_n 3, 1) := by decide +kernel
theorem d_Zo_thereCount_32 : decode c_Zo_thereCount 32 = .ok (.getfield 190, 3) := by decide +kernel
theorem d_Zo_thereCount_35 : decode c_Zo_thereCount 35 = .ok (.aload_n 3, 1) := by decide +kernel
theorem d_Zo_thereCount_36 : decode c_Zo_thereCount 36 = .ok (.aload_n 0, 1) := by decide +kernel
theorem d_Zo_thereCount_37 : decode c_Zo_thereCount 37 = .ok (.getfield 12, 3) := by decide +kernel
theorem d_Zo_thereCount_40 : decode c_Zo_thereCount 40 = .ok (.iload_n 2, 1) := by decide +kernel
theorem d_Zo_thereCount_41 : decode c_Zo_thereCount 41 = .ok (.iconst 1, 1) := by decide +kernel
theorem d_Zo_thereCount_42 : decode c_Zo_thereCount 42 = .ok (.isub, 1) := by decide +kernel
theorem d_Zo_thereCount_43 : decode c_Zo_thereCount 43 = .ok (.invokevirtual 79, 3) := by decide +kernel
theorem d_Zo_thereCount_46 : decode c_Zo_thereCount 46 = .ok (.checkcast 83, 3) := by decide +kernel
theorem d_Zo_thereCount_49 : decode c_Zo_thereCount 49 = .ok (.getfield 85, 3) := by decide +kernel
theorem d_Zo_thereCount_52 : decode c_Zo_thereCount 52 = .ok (.invokevirtual 150, 3) := by decide +kernel
theorem d_Zo_thereCount_55 : decode c_Zo_thereCount 55 = .ok (.isub, 1) := by decide +kernel
theorem d_Zo_thereCount_56 : decode c_Zo_thereCount 56 = .ok (.iadd, 1) := by decide +kernel
theorem d_Zo_thereCount_57 : decode c_Zo_thereCount 57 = .ok (.istore_n 1, 1) := by decide +kernel
theorem d_Zo_thereCount_58 : decode c_Zo_thereCount 58 = .ok (.iinc 2 1, 3) := by decide +kernel
theorem d_Zo_thereCount_61 : decode c_Zo_thereCount 61 = .ok (.goto (-57), 3) := by decide +kernel
theorem d_Zo_thereCount_64 : decode c_Zo_thereCount 64 = .ok (.iload_n 1, 1) := by decide +kernel
theorem d_Zo_thereCount_65 : decode c_Zo_thereCount 65 = .ok (.ireturn, 1) := by decide +kernel
abbrev c_Zo_chainCount : ByteArray := prog_10_method_30_code
abbrev y_Zo_chainCount : MethodName := ⟨"ZoneAnswers$Zone", "chainCount", "()I"⟩
theorem d_Zo_chainCount_0 : decode c_Zo_chainCount 0 = .ok (.iconst 0, 1) := by decide +kernel
theorem d_Zo_chainCount_1 : decode c_Zo_chainCount 1 = .ok (.istore_n 1, 1) := by decide +kernel
theorem d_Zo_chainCount_2 : decode c_Zo_chainCount 2 = .ok (.iconst 0, 1) := by decide +kernel
theorem d_Zo_chainCount_3 : decode c_Zo_chainCount 3 = .ok (.istore_n 2, 1) := by decide +kernel
theorem d_Zo_chainCount_4 : decode c_Zo_chainCount 4 = .ok (.iload_n 2, 1) := by decide +kernel
theorem d_Zo_chainCount_5 : decode c_Zo_chainCount 5 = .ok (.aload_n 0, 1) := by decide +kernel
theorem d_Zo_chainCount_6 : decode c_Zo_chainCount 6 = .ok (.getfield 12, 3) := by decide +kernel
theorem d_Zo_chainCount_9 : decode c_Zo_chainCount 9 = .ok (.invokevirtual 75, 3) := by decide +kernel
theorem d_Zo_chainCount_12 : decode c_Zo_chainCount 12 = .ok (.if_icmp .ge 34, 3) := by decide +kernel
theorem d_Zo_chainCount_15 : decode c_Zo_chainCount 15 = .ok (.iload_n 1, 1) := by decide +kernel
theorem d_Zo_chainCount_16 : decode c_Zo_chainCount 16 = .ok (.aload_n 0, 1) := by decide +kernel
theorem d_Zo_chainCount_17 : decode c_Zo_chainCount 17 = .ok (.getfield 12, 3) := by decide +kernel
theorem d_Zo_chainCount_20 : decode c_Zo_chainCount 20 = .ok (.iload_n 2, 1) := by decide +kernel
theorem d_Zo_chainCount_21 : decode c_Zo_chainCount 21 = .ok (.invokevirtual 79, 3) := by decide +kernel
theorem d_Zo_chainCount_24 : decode c_Zo_chainCount 24 = .ok (.checkcast 83, 3) := by decide +kernel
theorem d_Zo_chainCount_27 : decode c_Zo_chainCount 27 = .ok (.invokevirtual 163, 3) := by decide +kernel
theorem d_Zo_chainCount_30 : decode c_Zo_chainCount 30 = .ok (.ifCond .eq 7, 3) := by decide +kernel
theorem d_Zo_chainCount_33 : decode c_Zo_chainCount 33 = .ok (.iconst 0, 1) := by decide +kernel
theorem d_Zo_chainCount_34 : decode c_Zo_chainCount 34 = .ok (.goto 4, 3) := by decide +kernel
theorem d_Zo_chainCount_37 : decode c_Zo_chainCount 37 = .ok (.iconst 1, 1) := by decide +kernel
theorem d_Zo_chainCount_38 : decode c_Zo_chainCount 38 = .ok (.iadd, 1) := by decide +kernel
theorem d_Zo_chainCount_39 : decode c_Zo_chainCount 39 = .ok (.istore_n 1, 1) := by decide +kernel
theorem d_Zo_chainCount_40 : decode c_Zo_chainCount 40 = .ok (.iinc 2 1, 3) := by decide +kernel
theorem d_Zo_chainCount_43 : decode c_Zo_chainCount 43 = .ok (.goto (-39), 3) := by decide +kernel
theorem d_Zo_chainCount_46 : decode c_Zo_chainCount 46 = .ok (.iload_n 1, 1) := by decide +kernel
theorem d_Zo_chainCount_47 : decode c_Zo_chainCount 47 = .ok (.ireturn, 1) := by decide +kernel
abbrev c_Zo_cutCount : ByteArray := prog_10_method_31_code
abbrev y_Zo_cutCount : MethodName := ⟨"ZoneAnswers$Zone", "cutCount", "()I"⟩
theorem d_Zo_cutCount_0 : decode c_Zo_cutCount 0 = .ok (.iconst 0, 1) := by decide +kernel
theorem d_Zo_cutCount_1 : decode c_Zo_cutCount 1 = .ok (.istore_n 1, 1) := by decide +kernel
theorem d_Zo_cutCount_2 : decode c_Zo_cutCount 2 = .ok (.iconst 1, 1) := by decide +kernel
theorem d_Zo_cutCount_3 : decode c_Zo_cutCount 3 = .ok (.istore_n 2, 1) := by decide +kernel
theorem d_Zo_cutCount_4 : decode c_Zo_cutCount 4 = .ok (.iload_n 2, 1) := by decide +kernel
theorem d_Zo_cutCount_5 : decode c_Zo_cutCount 5 = .ok (.aload_n 0, 1) := by decide +kernel
theorem d_Zo_cutCount_6 : decode c_Zo_cutCount 6 = .ok (.getfield 12, 3) := by decide +kernel
theorem d_Zo_cutCount_9 : decode c_Zo_cutCount 9 = .ok (.invokevirtual 75, 3) := by decide +kernel
theorem d_Zo_cutCount_12 : decode c_Zo_cutCount 12 = .ok (.if_icmp .ge 35, 3) := by decide +kernel
theorem d_Zo_cutCount_15 : decode c_Zo_cutCount 15 = .ok (.iload_n 1, 1) := by decide +kernel
theorem d_Zo_cutCount_16 : decode c_Zo_cutCount 16 = .ok (.aload_n 0, 1) := by decide +kernel
theorem d_Zo_cutCount_17 : decode c_Zo_cutCount 17 = .ok (.getfield 12, 3) := by decide +kernel
theorem d_Zo_cutCount_20 : decode c_Zo_cutCount 20 = .ok (.iload_n 2, 1) := by decide +kernel
theorem d_Zo_cutCount_21 : decode c_Zo_cutCount 21 = .ok (.invokevirtual 79, 3) := by decide +kernel
theorem d_Zo_cutCount_24 : decode c_Zo_cutCount 24 = .ok (.checkcast 83, 3) := by decide +kernel
theorem d_Zo_cutCount_27 : decode c_Zo_cutCount 27 = .ok (.iconst 2, 1) := by decide +kernel
theorem d_Zo_cutCount_28 : decode c_Zo_cutCount 28 = .ok (.invokevirtual 143, 3) := by decide +kernel
theorem d_Zo_cutCount_31 : decode c_Zo_cutCount 31 = .ok (.ifnull 7, 3) := by decide +kernel
theorem d_Zo_cutCount_34 : decode c_Zo_cutCount 34 = .ok (.iconst 1, 1) := by decide +kernel
theorem d_Zo_cutCount_35 : decode c_Zo_cutCount 35 = .ok (.goto 4, 3) := by decide +kernel
theorem d_Zo_cutCount_38 : decode c_Zo_cutCount 38 = .ok (.iconst 0, 1) := by decide +kernel
theorem d_Zo_cutCount_39 : decode c_Zo_cutCount 39 = .ok (.iadd, 1) := by decide +kernel
theorem d_Zo_cutCount_40 : decode c_Zo_cutCount 40 = .ok (.istore_n 1, 1) := by decide +kernel
theorem d_Zo_cutCount_41 : decode c_Zo_cutCount 41 = .ok (.iinc 2 1, 3) := by decide +kernel
theorem d_Zo_cutCount_44 : decode c_Zo_cutCount 44 = .ok (.goto (-40), 3) := by decide +kernel
theorem d_Zo_cutCount_47 : decode c_Zo_cutCount 47 = .ok (.iload_n 1, 1) := by decide +kernel
theorem d_Zo_cutCount_48 : decode c_Zo_cutCount 48 = .ok (.ireturn, 1) := by decide +kernel
abbrev c_ZA_serial : ByteArray := prog_1_method_8_code
abbrev y_ZA_serial : MethodName := ⟨"ZoneAnswers", "serial", "(I)I"⟩
theorem d_ZA_serial_0 : decode c_ZA_serial 0 = .ok (.aload_n 0, 1) := by decide +kernel
theorem d_ZA_serial_1 : decode c_ZA_serial 1 = .ok (.getfield 19, 3) := by decide +kernel
theorem d_ZA_serial_4 : decode c_ZA_serial 4 = .ok (.invokevirtual 148, 3) := by decide +kernel
theorem d_ZA_serial_7 : decode c_ZA_serial 7 = .ok (.istore_n 2, 1) := by decide +kernel
theorem d_ZA_serial_8 : decode c_ZA_serial 8 = .ok (.aload_n 0, 1) := by decide +kernel
theorem d_ZA_serial_9 : decode c_ZA_serial 9 = .ok (.getfield 19, 3) := by decide +kernel
theorem d_ZA_serial_12 : decode c_ZA_serial 12 = .ok (.iload_n 1, 1) := by decide +kernel
theorem d_ZA_serial_13 : decode c_ZA_serial 13 = .ok (.invokevirtual 151, 3) := by decide +kernel
theorem d_ZA_serial_16 : decode c_ZA_serial 16 = .ok (.iload_n 2, 1) := by decide +kernel
theorem d_ZA_serial_17 : decode c_ZA_serial 17 = .ok (.ireturn, 1) := by decide +kernel
abbrev c_ZA_count : ByteArray := prog_1_method_14_code
abbrev y_ZA_count : MethodName := ⟨"ZoneAnswers", "count", "(I)I"⟩
theorem d_ZA_count_0 : decode c_ZA_count 0 = .ok (.iload_n 1, 1) := by decide +kernel
theorem d_ZA_count_1 : decode c_ZA_count 1 = .ok (.tableswitch 111 0 7 #[47, 55, 63, 71, 79, 87, 95, 103], 47) := by decide +kernel
theorem d_ZA_count_48 : decode c_ZA_count 48 = .ok (.aload_n 0, 1) := by decide +kernel
theorem d_ZA_count_49 : decode c_ZA_count 49 = .ok (.getfield 10, 3) := by decide +kernel
theorem d_ZA_count_52 : decode c_ZA_count 52 = .ok (.invokevirtual 52, 3) := by decide +kernel
theorem d_ZA_count_55 : decode c_ZA_count 55 = .ok (.ireturn, 1) := by decide +kernel
theorem d_ZA_count_56 : decode c_ZA_count 56 = .ok (.aload_n 0, 1) := by decide +kernel
theorem d_ZA_count_57 : decode c_ZA_count 57 = .ok (.getfield 19, 3) := by decide +kernel
theorem d_ZA_count_60 : decode c_ZA_count 60 = .ok (.invokevirtual 212, 3) := by decide +kernel
theorem d_ZA_count_63 : decode c_ZA_count 63 = .ok (.ireturn, 1) := by decide +kernel
theorem d_ZA_count_64 : decode c_ZA_count 64 = .ok (.aload_n 0, 1) := by decide +kernel
theorem d_ZA_count_65 : decode c_ZA_count 65 = .ok (.getfield 19, 3) := by decide +kernel
theorem d_ZA_count_68 : decode c_ZA_count 68 = .ok (.invokevirtual 215, 3) := by decide +kernel
theorem d_ZA_count_71 : decode c_ZA_count 71 = .ok (.ireturn, 1) := by decide +kernel
theorem d_ZA_count_72 : decode c_ZA_count 72 = .ok (.aload_n 0, 1) := by decide +kernel
theorem d_ZA_count_73 : decode c_ZA_count 73 = .ok (.getfield 19, 3) := by decide +kernel
theorem d_ZA_count_76 : decode c_ZA_count 76 = .ok (.invokevirtual 218, 3) := by decide +kernel
theorem d_ZA_count_79 : decode c_ZA_count 79 = .ok (.ireturn, 1) := by decide +kernel
theorem d_ZA_count_80 : decode c_ZA_count 80 = .ok (.aload_n 0, 1) := by decide +kernel
theorem d_ZA_count_81 : decode c_ZA_count 81 = .ok (.getfield 19, 3) := by decide +kernel
theorem d_ZA_count_84 : decode c_ZA_count 84 = .ok (.invokevirtual 221, 3) := by decide +kernel
theorem d_ZA_count_87 : decode c_ZA_count 87 = .ok (.ireturn, 1) := by decide +kernel
theorem d_ZA_count_88 : decode c_ZA_count 88 = .ok (.aload_n 0, 1) := by decide +kernel
theorem d_ZA_count_89 : decode c_ZA_count 89 = .ok (.getfield 19, 3) := by decide +kernel
theorem d_ZA_count_92 : decode c_ZA_count 92 = .ok (.invokevirtual 224, 3) := by decide +kernel
theorem d_ZA_count_95 : decode c_ZA_count 95 = .ok (.ireturn, 1) := by decide +kernel
theorem d_ZA_count_96 : decode c_ZA_count 96 = .ok (.aload_n 0, 1) := by decide +kernel
theorem d_ZA_count_97 : decode c_ZA_count 97 = .ok (.getfield 19, 3) := by decide +kernel
theorem d_ZA_count_100 : decode c_ZA_count 100 = .ok (.invokevirtual 227, 3) := by decide +kernel
theorem d_ZA_count_103 : decode c_ZA_count 103 = .ok (.ireturn, 1) := by decide +kernel
theorem d_ZA_count_104 : decode c_ZA_count 104 = .ok (.aload_n 0, 1) := by decide +kernel
theorem d_ZA_count_105 : decode c_ZA_count 105 = .ok (.getfield 19, 3) := by decide +kernel
theorem d_ZA_count_108 : decode c_ZA_count 108 = .ok (.invokevirtual 148, 3) := by decide +kernel
theorem d_ZA_count_111 : decode c_ZA_count 111 = .ok (.ireturn, 1) := by decide +kernel
theorem d_ZA_count_112 : decode c_ZA_count 112 = .ok (.iconst (-1), 1) := by decide +kernel
theorem d_ZA_count_113 : decode c_ZA_count 113 = .ok (.ireturn, 1) := by decide +kernel
abbrev rm_Zo_setCount_f : Room := { frames := 4, cells := 0, slots := 0, locals := 130 }
set_option maxHeartbeats 4000000 in
set_option maxRecDepth 100000 in
/-- Zo_setCount, of a new zone -/
theorem t_Zo_setCount_f (l : Launch) (E : zc_E) (G : zg_G) (xo ta zo an b la x st sd o ol da dx d0 d1 d3 bt s1 s2 s3 r1 r2 r3 : Nat) (hF : zNew E G xo ta zo an b la x st sd o ol da dx d0 d1 d3 bt s1 s2 s3 r1 r2 r3) : zMi l E y_Zo_setCount c_Zo_setCount 3 (some .int) rm_Zo_setCount_f [.ref zo] G (fun (r : Int32) (G2 : zg_G) => r = nI 1 ∧ G2 = G) := by
  refine zMi.of (by decide) (Nat.le_of_ble_eq_true rfl) ?_
  intro p e s m args below meth c Q hZ hG hret ls hl
  obtain ⟨hx, hb, hr, hts, hown, hlocks, hml, hnm, hbase, hK, hN, hQ⟩ := hZ
  have hl : lv_has ls 3 [(0, .ref zo)] := hl
  have hS : zg_S (zc_b E) s.heap s.heap [] := va_S.rf
  obtain ⟨hX, hT, hZz, hLo, ho, hLs, hst, hLd, hdx, hsd, hnx, hbt, han, hs1, hs2, hs3, hr1, hr2, hr3⟩ := id hF
  obtain ⟨k8, c8, f8, hla, hd8, h08, hc8, hz8, hf8⟩ := hLo.un
  obtain ⟨k7, c7, f7, hol, hd7, h07, hc7, hz7, hf7⟩ := hLs.un
  refine lv_iconst (v := 0) hx hb d_Zo_setCount_0 (by decide) ?_
  refine zi_as (y := nI 0) (nI_0.symm) ?_
  refine lv_istore_n (lv' := [(1, .int (nI 0)), (0, .ref zo)]) hx hb d_Zo_setCount_1 rfl hl (by decide) rfl (fun ls hl => ?_)
  refine lv_iconst (v := 0) hx hb d_Zo_setCount_2 (by decide) ?_
  refine zi_as (y := nI 0) (nI_0.symm) ?_
  refine lv_istore_n (lv' := [(2, .int (nI 0)), (1, .int (nI 0)), (0, .ref zo)]) hx hb d_Zo_setCount_3 rfl hl (by decide) rfl (fun ls hl => ?_)
  refine lv_iload_n hx hb d_Zo_setCount_4 rfl (lv_at hl 0 rfl) ?_
  refine lv_aload_n hx hb d_Zo_setCount_5 rfl (lv_at hl 2 rfl) ?_
  refine zg_get (ci := 9) (C := "ZoneAnswers$Zone") (T := T_Zo) (N := 5) hx hb hts zi_Zo hown hK hG hZz rfl 0 (by decide) (hts _ w_91) (fun _ h9 => h9) rfl d_Zo_setCount_6 ?_
  refine zk_i (va_runV (As := []) (rest := [.int (nI 0)]) ⟨hx, hb, hml, hown, hts⟩ (t_AL_size l E G la (.ref d0) (nI 1) k8 hla) (zcV 0 hts w_159 w_160 w_161 w_6 w_162 (by decide +kernel) ⟨Nat.le_of_ble_eq_true rfl, Nat.le_of_ble_eq_true rfl⟩) (zc_preV hbase hK hN hQ hG hS hla rfl) rfl rfl hl.1 rfl (lv_room (Nat.le_of_ble_eq_true rfl)) d_Zo_setCount_9 ⟨(by decide), (by decide)⟩) hS (fun r9 G9 H locs hp9 hG hS => ?_)
  have hG : zP E G H := hp9.2 ▸ hG
  refine zi_as (y := nI 1) hp9.1 ?_
  refine lv_icmp_ge (tgt := 41) hx hb d_Zo_setCount_12 (by decide) (fun c12 => ?_) (fun c12 => ?_)
  · have b12 : 1 ≤ 0 := (nI_leI (a := 1) (b := 0) (by omega) (by omega)).mp c12
    exact absurd b12 (by omega)
  · have b12 : ¬ 1 ≤ 0 := fun q => c12 ((nI_leI (a := 1) (b := 0) (by omega) (by omega)).mpr q)
    refine lv_iload_n hx hb d_Zo_setCount_15 rfl (lv_at hl 1 rfl) ?_
    refine lv_aload_n hx hb d_Zo_setCount_16 rfl (lv_at hl 2 rfl) ?_
    refine zg_get (ci := 9) (C := "ZoneAnswers$Zone") (T := T_Zo) (N := 5) hx hb hts zi_Zo hown hK hG hZz rfl 0 (by decide) (hts _ w_91) (fun _ h9 => h9) rfl d_Zo_setCount_17 ?_
    refine lv_iload_n hx hb d_Zo_setCount_20 rfl (lv_at hl 0 rfl) ?_
    have hGo21 := hG
    refine zk_q (va_runV (As := [.int (nI 0)]) (rest := [.int (nI 0)]) ⟨hx, hb, hml, hown, hts⟩ (t_AL_get l E G la d0 1 c8 k8 f8 hla hd8 hc8 (by omega) 0 (by decide)) (zcV 1 hts w_163 w_164 w_165 w_6 w_166 (by decide +kernel) ⟨Nat.le_of_ble_eq_true rfl, Nat.le_of_ble_eq_true rfl⟩) (zc_preV hbase hK hN hQ hG hS hla rfl) rfl rfl hl.1 rfl (lv_room (Nat.le_of_ble_eq_true rfl)) d_Zo_setCount_21 ⟨(by decide), (by decide)⟩) hS (fun r21 G21 H locs hp21 hG hS => ?_)
    have hG : zP E G H := hp21.2 ▸ hG
    refine zr_some (a := o) (hp21.1.trans ((hf8 0).trans rfl)) ?_
    refine zg_castY hx hb hown (hts _ w_177) hK hG ho rfl (zN.at hN (w := .castable "ZoneAnswers$Owner" "ZoneAnswers$Owner") (by decide +kernel)) d_Zo_setCount_24 ?_
    refine zg_get (ci := 4) (C := "ZoneAnswers$Owner") (T := T_Ow) (N := 3) hx hb hts zi_Ow hown hK hG ho rfl 1 (by decide) (hts _ w_209) (fun _ h9 => h9) rfl d_Zo_setCount_27 ?_
    refine zk_i (va_runV (As := []) (rest := [.int (nI 0)]) ⟨hx, hb, hml, hown, hts⟩ (t_AL_size l E G ol (.ref d1) (nI 1) k7 hol) (zcV 0 hts w_159 w_160 w_161 w_6 w_162 (by decide +kernel) ⟨Nat.le_of_ble_eq_true rfl, Nat.le_of_ble_eq_true rfl⟩) (zc_preV hbase hK hN hQ hG hS hol rfl) rfl rfl hl.1 rfl (lv_room (Nat.le_of_ble_eq_true rfl)) d_Zo_setCount_30 ⟨(by decide), (by decide)⟩) hS (fun r30 G30 H locs hp30 hG hS => ?_)
    have hG : zP E G H := hp30.2 ▸ hG
    refine zi_as (y := nI 1) hp30.1 ?_
    refine lv_iadd hx hb d_Zo_setCount_33 ?_
    refine zi_as (y := nI (0 + 1)) (nI_add 0 1) ?_
    refine lv_istore_n (lv' := [(1, .int (nI (0 + 1))), (2, .int (nI 0)), (0, .ref zo)]) hx hb d_Zo_setCount_34 rfl hl (by decide) rfl (fun ls hl => ?_)
    refine lv_iinc (v := nI (0 + 1)) (lv' := [(2, .int (nI (0 + 1))), (1, .int (nI (0 + 1))), (0, .ref zo)]) hx hb d_Zo_setCount_35 hl (k := 1) rfl (nI_add 0 1) (by decide) rfl (fun ls hl => ?_)
    refine lv_goto (tgt := 4) hx hb d_Zo_setCount_38 (by decide) ?_
    refine lv_iload_n hx hb d_Zo_setCount_4 rfl (lv_at hl 0 rfl) ?_
    refine lv_aload_n hx hb d_Zo_setCount_5 rfl (lv_at hl 2 rfl) ?_
    refine zg_get (ci := 9) (C := "ZoneAnswers$Zone") (T := T_Zo) (N := 5) hx hb hts zi_Zo hown hK hG hZz rfl 0 (by decide) (hts _ w_91) (fun _ h9 => h9) rfl d_Zo_setCount_6 ?_
    refine zk_i (va_runV (As := []) (rest := [.int (nI (0 + 1))]) ⟨hx, hb, hml, hown, hts⟩ (t_AL_size l E G la (.ref d0) (nI 1) k8 hla) (zcV 0 hts w_159 w_160 w_161 w_6 w_162 (by decide +kernel) ⟨Nat.le_of_ble_eq_true rfl, Nat.le_of_ble_eq_true rfl⟩) (zc_preV hbase hK hN hQ hG hS hla rfl) rfl rfl hl.1 rfl (lv_room (Nat.le_of_ble_eq_true rfl)) d_Zo_setCount_9 ⟨(by decide), (by decide)⟩) hS (fun r9 G9 H locs hp9 hG hS => ?_)
    have hG : zP E G H := hp9.2 ▸ hG
    refine zi_as (y := nI 1) hp9.1 ?_
    refine lv_icmp_ge (tgt := 41) hx hb d_Zo_setCount_12 (by decide) (fun c12 => ?_) (fun c12 => ?_)
    · have b12 : 1 ≤ (0 + 1) := (nI_leI (a := 1) (b := (0 + 1)) (by omega) (by omega)).mp c12
      refine lv_iload_n hx hb d_Zo_setCount_41 rfl (lv_at hl 1 rfl) ?_
      exact hret _ _ _ _ _ _ _ _ _ hr (rfl) (⟨by first | rfl | decide, rfl⟩) hG hS (Nat.le_refl _) (Nat.le_refl _) d_Zo_setCount_42
    · have b12 : ¬ 1 ≤ (0 + 1) := fun q => c12 ((nI_leI (a := 1) (b := (0 + 1)) (by omega) (by omega)).mpr q)
      exact absurd b12 (by omega)
abbrev rm_Zo_thereCount_f : Room := { frames := 4, cells := 0, slots := 0, locals := 130 }
set_option maxHeartbeats 4000000 in
set_option maxRecDepth 100000 in
/-- Zo_thereCount, of a new zone -/
theorem t_Zo_thereCount_f (l : Launch) (E : zc_E) (G : zg_G) (xo ta zo an b la x st sd o ol da dx d0 d1 d3 bt s1 s2 s3 r1 r2 r3 : Nat) (hF : zNew E G xo ta zo an b la x st sd o ol da dx d0 d1 d3 bt s1 s2 s3 r1 r2 r3) : zMi l E y_Zo_thereCount c_Zo_thereCount 4 (some .int) rm_Zo_thereCount_f [.ref zo] G (fun (r : Int32) (G2 : zg_G) => r = nI 1 ∧ G2 = G) := by
  refine zMi.of (by decide) (Nat.le_of_ble_eq_true rfl) ?_
  intro p e s m args below meth c Q hZ hG hret ls hl
  obtain ⟨hx, hb, hr, hts, hown, hlocks, hml, hnm, hbase, hK, hN, hQ⟩ := hZ
  have hl : lv_has ls 4 [(0, .ref zo)] := hl
  have hS : zg_S (zc_b E) s.heap s.heap [] := va_S.rf
  obtain ⟨hX, hT, hZz, hLo, ho, hLs, hst, hLd, hdx, hsd, hnx, hbt, han, hs1, hs2, hs3, hr1, hr2, hr3⟩ := id hF
  obtain ⟨k8, c8, f8, hla, hd8, h08, hc8, hz8, hf8⟩ := hLo.un
  obtain ⟨k7, c7, f7, hol, hd7, h07, hc7, hz7, hf7⟩ := hLs.un
  refine lv_iconst (v := 1) hx hb d_Zo_thereCount_0 (by decide) ?_
  refine lv_istore_n (lv' := [(1, .int 1), (0, .ref zo)]) hx hb d_Zo_thereCount_1 rfl hl (by decide) rfl (fun ls hl => ?_)
  refine lv_iconst (v := 1) hx hb d_Zo_thereCount_2 (by decide) ?_
  refine lv_istore_n (lv' := [(2, .int 1), (1, .int 1), (0, .ref zo)]) hx hb d_Zo_thereCount_3 rfl hl (by decide) rfl (fun ls hl => ?_)
  refine lv_iload_n hx hb d_Zo_thereCount_4 rfl (lv_at hl 0 rfl) ?_
  refine lv_aload_n hx hb d_Zo_thereCount_5 rfl (lv_at hl 2 rfl) ?_
  refine zg_get (ci := 9) (C := "ZoneAnswers$Zone") (T := T_Zo) (N := 5) hx hb hts zi_Zo hown hK hG hZz rfl 0 (by decide) (hts _ w_91) (fun _ h9 => h9) rfl d_Zo_thereCount_6 ?_
  refine zk_i (va_runV (As := []) (rest := [.int 1]) ⟨hx, hb, hml, hown, hts⟩ (t_AL_size l E G la (.ref d0) (nI 1) k8 hla) (zcV 0 hts w_159 w_160 w_161 w_6 w_162 (by decide +kernel) ⟨Nat.le_of_ble_eq_true rfl, Nat.le_of_ble_eq_true rfl⟩) (zc_preV hbase hK hN hQ hG hS hla rfl) rfl rfl hl.1 rfl (lv_room (Nat.le_of_ble_eq_true rfl)) d_Zo_thereCount_9 ⟨(by decide), (by decide)⟩) hS (fun r9 G9 H locs hp9 hG hS => ?_)
  have hG : zP E G H := hp9.2 ▸ hG
  refine zi_as (y := nI 1) hp9.1 ?_
  refine lv_icmp_ge (tgt := 64) hx hb d_Zo_thereCount_12 (by decide) (fun c12 => ?_) (fun c12 => ?_)
  · have b12 : 1 ≤ 1 := (nI_leI (a := 1) (b := 1) (by omega) (by omega)).mp c12
    refine lv_iload_n hx hb d_Zo_thereCount_64 rfl (lv_at hl 1 rfl) ?_
    exact hret _ _ _ _ _ _ _ _ _ hr (rfl) (⟨by first | rfl | decide, rfl⟩) hG hS (Nat.le_refl _) (Nat.le_refl _) d_Zo_thereCount_65
  · have b12 : ¬ 1 ≤ 1 := fun q => c12 ((nI_leI (a := 1) (b := 1) (by omega) (by omega)).mpr q)
    exact absurd b12 (by omega)
abbrev rm_Zo_chainCount_f : Room := { frames := 4, cells := 0, slots := 0, locals := 130 }
set_option maxHeartbeats 4000000 in
set_option maxRecDepth 100000 in
/-- Zo_chainCount, of a new zone -/
theorem t_Zo_chainCount_f (l : Launch) (E : zc_E) (G : zg_G) (xo ta zo an b la x st sd o ol da dx d0 d1 d3 bt s1 s2 s3 r1 r2 r3 : Nat) (hF : zNew E G xo ta zo an b la x st sd o ol da dx d0 d1 d3 bt s1 s2 s3 r1 r2 r3) : zMi l E y_Zo_chainCount c_Zo_chainCount 3 (some .int) rm_Zo_chainCount_f [.ref zo] G (fun (r : Int32) (G2 : zg_G) => r = nI 1 ∧ G2 = G) := by
  refine zMi.of (by decide) (Nat.le_of_ble_eq_true rfl) ?_
  intro p e s m args below meth c Q hZ hG hret ls hl
  obtain ⟨hx, hb, hr, hts, hown, hlocks, hml, hnm, hbase, hK, hN, hQ⟩ := hZ
  have hl : lv_has ls 3 [(0, .ref zo)] := hl
  have hS : zg_S (zc_b E) s.heap s.heap [] := va_S.rf
  obtain ⟨hX, hT, hZz, hLo, ho, hLs, hst, hLd, hdx, hsd, hnx, hbt, han, hs1, hs2, hs3, hr1, hr2, hr3⟩ := id hF
  obtain ⟨k8, c8, f8, hla, hd8, h08, hc8, hz8, hf8⟩ := hLo.un
  obtain ⟨k7, c7, f7, hol, hd7, h07, hc7, hz7, hf7⟩ := hLs.un
  refine lv_iconst (v := 0) hx hb d_Zo_chainCount_0 (by decide) ?_
  refine zi_as (y := nI 0) (nI_0.symm) ?_
  refine lv_istore_n (lv' := [(1, .int (nI 0)), (0, .ref zo)]) hx hb d_Zo_chainCount_1 rfl hl (by decide) rfl (fun ls hl => ?_)
  refine lv_iconst (v := 0) hx hb d_Zo_chainCount_2 (by decide) ?_
  refine zi_as (y := nI 0) (nI_0.symm) ?_
  refine lv_istore_n (lv' := [(2, .int (nI 0)), (1, .int (nI 0)), (0, .ref zo)]) hx hb d_Zo_chainCount_3 rfl hl (by decide) rfl (fun ls hl => ?_)
  refine lv_iload_n hx hb d_Zo_chainCount_4 rfl (lv_at hl 0 rfl) ?_
  refine lv_aload_n hx hb d_Zo_chainCount_5 rfl (lv_at hl 2 rfl) ?_
  refine zg_get (ci := 9) (C := "ZoneAnswers$Zone") (T := T_Zo) (N := 5) hx hb hts zi_Zo hown hK hG hZz rfl 0 (by decide) (hts _ w_91) (fun _ h9 => h9) rfl d_Zo_chainCount_6 ?_
  refine zk_i (va_runV (As := []) (rest := [.int (nI 0)]) ⟨hx, hb, hml, hown, hts⟩ (t_AL_size l E G la (.ref d0) (nI 1) k8 hla) (zcV 0 hts w_159 w_160 w_161 w_6 w_162 (by decide +kernel) ⟨Nat.le_of_ble_eq_true rfl, Nat.le_of_ble_eq_true rfl⟩) (zc_preV hbase hK hN hQ hG hS hla rfl) rfl rfl hl.1 rfl (lv_room (Nat.le_of_ble_eq_true rfl)) d_Zo_chainCount_9 ⟨(by decide), (by decide)⟩) hS (fun r9 G9 H locs hp9 hG hS => ?_)
  have hG : zP E G H := hp9.2 ▸ hG
  refine zi_as (y := nI 1) hp9.1 ?_
  refine lv_icmp_ge (tgt := 46) hx hb d_Zo_chainCount_12 (by decide) (fun c12 => ?_) (fun c12 => ?_)
  · have b12 : 1 ≤ 0 := (nI_leI (a := 1) (b := 0) (by omega) (by omega)).mp c12
    exact absurd b12 (by omega)
  · have b12 : ¬ 1 ≤ 0 := fun q => c12 ((nI_leI (a := 1) (b := 0) (by omega) (by omega)).mpr q)
    refine lv_iload_n hx hb d_Zo_chainCount_15 rfl (lv_at hl 1 rfl) ?_
    refine lv_aload_n hx hb d_Zo_chainCount_16 rfl (lv_at hl 2 rfl) ?_
    refine zg_get (ci := 9) (C := "ZoneAnswers$Zone") (T := T_Zo) (N := 5) hx hb hts zi_Zo hown hK hG hZz rfl 0 (by decide) (hts _ w_91) (fun _ h9 => h9) rfl d_Zo_chainCount_17 ?_
    refine lv_iload_n hx hb d_Zo_chainCount_20 rfl (lv_at hl 0 rfl) ?_
    have hGo21 := hG
    refine zk_q (va_runV (As := [.int (nI 0)]) (rest := [.int (nI 0)]) ⟨hx, hb, hml, hown, hts⟩ (t_AL_get l E G la d0 1 c8 k8 f8 hla hd8 hc8 (by omega) 0 (by decide)) (zcV 1 hts w_163 w_164 w_165 w_6 w_166 (by decide +kernel) ⟨Nat.le_of_ble_eq_true rfl, Nat.le_of_ble_eq_true rfl⟩) (zc_preV hbase hK hN hQ hG hS hla rfl) rfl rfl hl.1 rfl (lv_room (Nat.le_of_ble_eq_true rfl)) d_Zo_chainCount_21 ⟨(by decide), (by decide)⟩) hS (fun r21 G21 H locs hp21 hG hS => ?_)
    have hG : zP E G H := hp21.2 ▸ hG
    refine zr_some (a := o) (hp21.1.trans ((hf8 0).trans rfl)) ?_
    refine zg_castY hx hb hown (hts _ w_177) hK hG ho rfl (zN.at hN (w := .castable "ZoneAnswers$Owner" "ZoneAnswers$Owner") (by decide +kernel)) d_Zo_chainCount_24 ?_
    refine zk_i (va_runV (As := []) (rest := [.int (nI 0)]) ⟨hx, hb, hml, hown, hts⟩ (t_Ow_isGivenAway_n l E G o x ol ho) (zcV 0 hts w_757 w_758 w_759 w_12 w_760 (by decide +kernel) ⟨Nat.le_of_ble_eq_true rfl, Nat.le_of_ble_eq_true rfl⟩) (zc_preV hbase hK hN hQ hG hS ho rfl) rfl rfl hl.1 rfl (lv_room (Nat.le_of_ble_eq_true rfl)) d_Zo_chainCount_27 ⟨(by decide), (by decide)⟩) hS (fun r27 G27 H locs hp27 hG hS => ?_)
    have hG : zP E G H := hp27.2 ▸ hG
    refine zi_as (y := 0) hp27.1 ?_
    refine lv_if_eq (tgt := 37) hx hb d_Zo_chainCount_30 (by decide) (fun c30 => ?_) (fun c30 => ?_)
    · have b30 : 0 = 0 := (nI_eq (a := 0) (b := 0) (by omega) (by omega)).mp c30
      refine lv_iconst (v := 1) hx hb d_Zo_chainCount_37 (by decide) ?_
      refine zi_as (y := nI 1) (by decide) ?_
      refine lv_iadd hx hb d_Zo_chainCount_38 ?_
      refine zi_as (y := nI (0 + 1)) (nI_add 0 1) ?_
      refine lv_istore_n (lv' := [(1, .int (nI (0 + 1))), (2, .int (nI 0)), (0, .ref zo)]) hx hb d_Zo_chainCount_39 rfl hl (by decide) rfl (fun ls hl => ?_)
      refine lv_iinc (v := nI (0 + 1)) (lv' := [(2, .int (nI (0 + 1))), (1, .int (nI (0 + 1))), (0, .ref zo)]) hx hb d_Zo_chainCount_40 hl (k := 1) rfl (nI_add 0 1) (by decide) rfl (fun ls hl => ?_)
      refine lv_goto (tgt := 4) hx hb d_Zo_chainCount_43 (by decide) ?_
      refine lv_iload_n hx hb d_Zo_chainCount_4 rfl (lv_at hl 0 rfl) ?_
      refine lv_aload_n hx hb d_Zo_chainCount_5 rfl (lv_at hl 2 rfl) ?_
      refine zg_get (ci := 9) (C := "ZoneAnswers$Zone") (T := T_Zo) (N := 5) hx hb hts zi_Zo hown hK hG hZz rfl 0 (by decide) (hts _ w_91) (fun _ h9 => h9) rfl d_Zo_chainCount_6 ?_
      refine zk_i (va_runV (As := []) (rest := [.int (nI (0 + 1))]) ⟨hx, hb, hml, hown, hts⟩ (t_AL_size l E G la (.ref d0) (nI 1) k8 hla) (zcV 0 hts w_159 w_160 w_161 w_6 w_162 (by decide +kernel) ⟨Nat.le_of_ble_eq_true rfl, Nat.le_of_ble_eq_true rfl⟩) (zc_preV hbase hK hN hQ hG hS hla rfl) rfl rfl hl.1 rfl (lv_room (Nat.le_of_ble_eq_true rfl)) d_Zo_chainCount_9 ⟨(by decide), (by decide)⟩) hS (fun r9 G9 H locs hp9 hG hS => ?_)
      have hG : zP E G H := hp9.2 ▸ hG
      refine zi_as (y := nI 1) hp9.1 ?_
      refine lv_icmp_ge (tgt := 46) hx hb d_Zo_chainCount_12 (by decide) (fun c12 => ?_) (fun c12 => ?_)
      · have b12 : 1 ≤ (0 + 1) := (nI_leI (a := 1) (b := (0 + 1)) (by omega) (by omega)).mp c12
        refine lv_iload_n hx hb d_Zo_chainCount_46 rfl (lv_at hl 1 rfl) ?_
        exact hret _ _ _ _ _ _ _ _ _ hr (rfl) (⟨by first | rfl | decide, rfl⟩) hG hS (Nat.le_refl _) (Nat.le_refl _) d_Zo_chainCount_47
      · have b12 : ¬ 1 ≤ (0 + 1) := fun q => c12 ((nI_leI (a := 1) (b := (0 + 1)) (by omega) (by omega)).mpr q)
        exact absurd b12 (by omega)
    · have b30 : ¬ 0 = 0 := fun q => c30 ((nI_eq (a := 0) (b := 0) (by omega) (by omega)).mpr q)
      exact absurd rfl c30
abbrev rm_Zo_cutCount_f : Room := { frames := 4, cells := 0, slots := 0, locals := 130 }
set_option maxHeartbeats 4000000 in
set_option maxRecDepth 100000 in
/-- Zo_cutCount, of a new zone -/
theorem t_Zo_cutCount_f (l : Launch) (E : zc_E) (G : zg_G) (xo ta zo an b la x st sd o ol da dx d0 d1 d3 bt s1 s2 s3 r1 r2 r3 : Nat) (hF : zNew E G xo ta zo an b la x st sd o ol da dx d0 d1 d3 bt s1 s2 s3 r1 r2 r3) : zMi l E y_Zo_cutCount c_Zo_cutCount 3 (some .int) rm_Zo_cutCount_f [.ref zo] G (fun (r : Int32) (G2 : zg_G) => r = nI 0 ∧ G2 = G) := by
  refine zMi.of (by decide) (Nat.le_of_ble_eq_true rfl) ?_
  intro p e s m args below meth c Q hZ hG hret ls hl
  obtain ⟨hx, hb, hr, hts, hown, hlocks, hml, hnm, hbase, hK, hN, hQ⟩ := hZ
  have hl : lv_has ls 3 [(0, .ref zo)] := hl
  have hS : zg_S (zc_b E) s.heap s.heap [] := va_S.rf
  obtain ⟨hX, hT, hZz, hLo, ho, hLs, hst, hLd, hdx, hsd, hnx, hbt, han, hs1, hs2, hs3, hr1, hr2, hr3⟩ := id hF
  obtain ⟨k8, c8, f8, hla, hd8, h08, hc8, hz8, hf8⟩ := hLo.un
  obtain ⟨k7, c7, f7, hol, hd7, h07, hc7, hz7, hf7⟩ := hLs.un
  refine lv_iconst (v := 0) hx hb d_Zo_cutCount_0 (by decide) ?_
  refine zi_as (y := nI 0) (nI_0.symm) ?_
  refine lv_istore_n (lv' := [(1, .int (nI 0)), (0, .ref zo)]) hx hb d_Zo_cutCount_1 rfl hl (by decide) rfl (fun ls hl => ?_)
  refine lv_iconst (v := 1) hx hb d_Zo_cutCount_2 (by decide) ?_
  refine lv_istore_n (lv' := [(2, .int 1), (1, .int (nI 0)), (0, .ref zo)]) hx hb d_Zo_cutCount_3 rfl hl (by decide) rfl (fun ls hl => ?_)
  refine lv_iload_n hx hb d_Zo_cutCount_4 rfl (lv_at hl 0 rfl) ?_
  refine lv_aload_n hx hb d_Zo_cutCount_5 rfl (lv_at hl 2 rfl) ?_
  refine zg_get (ci := 9) (C := "ZoneAnswers$Zone") (T := T_Zo) (N := 5) hx hb hts zi_Zo hown hK hG hZz rfl 0 (by decide) (hts _ w_91) (fun _ h9 => h9) rfl d_Zo_cutCount_6 ?_
  refine zk_i (va_runV (As := []) (rest := [.int 1]) ⟨hx, hb, hml, hown, hts⟩ (t_AL_size l E G la (.ref d0) (nI 1) k8 hla) (zcV 0 hts w_159 w_160 w_161 w_6 w_162 (by decide +kernel) ⟨Nat.le_of_ble_eq_true rfl, Nat.le_of_ble_eq_true rfl⟩) (zc_preV hbase hK hN hQ hG hS hla rfl) rfl rfl hl.1 rfl (lv_room (Nat.le_of_ble_eq_true rfl)) d_Zo_cutCount_9 ⟨(by decide), (by decide)⟩) hS (fun r9 G9 H locs hp9 hG hS => ?_)
  have hG : zP E G H := hp9.2 ▸ hG
  refine zi_as (y := nI 1) hp9.1 ?_
  refine lv_icmp_ge (tgt := 47) hx hb d_Zo_cutCount_12 (by decide) (fun c12 => ?_) (fun c12 => ?_)
  · have b12 : 1 ≤ 1 := (nI_leI (a := 1) (b := 1) (by omega) (by omega)).mp c12
    refine lv_iload_n hx hb d_Zo_cutCount_47 rfl (lv_at hl 1 rfl) ?_
    exact hret _ _ _ _ _ _ _ _ _ hr (rfl) (⟨by first | rfl | decide, rfl⟩) hG hS (Nat.le_refl _) (Nat.le_refl _) d_Zo_cutCount_48
  · have b12 : ¬ 1 ≤ 1 := fun q => c12 ((nI_leI (a := 1) (b := 1) (by omega) (by omega)).mpr q)
    exact absurd b12 (by omega)
abbrev rm_ZA_serial_f : Room := { frames := 9, cells := 4, slots := 60, locals := 300 }
set_option maxHeartbeats 4000000 in
set_option maxRecDepth 100000 in
/-- serial(y), of a new object -/
theorem t_ZA_serial_f (l : Launch) (E : zc_E) (G : zg_G) (xo ta zo an b la x st sd o ol da dx d0 d1 d3 bt s1 s2 s3 r1 r2 r3 : Nat) (hF : zNew E G xo ta zo an b la x st sd o ol da dx d0 d1 d3 bt s1 s2 s3 r1 r2 r3) (y : Int32) : zMi l E y_ZA_serial c_ZA_serial 3 (some .int) rm_ZA_serial_f [.ref xo, .int y] G (fun (r : Int32) (G2 : zg_G) => r = 1 ∧ zx (fun q => q = zo ∨ q = da ∨ q = d3) G G2) := by
  refine zMi.of (by decide) (Nat.le_of_ble_eq_true rfl) ?_
  intro p e s m args below meth c Q hZ hG hret ls hl
  obtain ⟨hx, hb, hr, hts, hown, hlocks, hml, hnm, hbase, hK, hN, hQ⟩ := hZ
  have hl : lv_has ls 3 [(0, .ref xo), (1, .int y)] := hl
  have hS : zg_S (zc_b E) s.heap s.heap [] := va_S.rf
  obtain ⟨hX, hT, hZz, hLo, ho, hLs, hst, hLd, hdx, hsd, hnx, hbt, han, hs1, hs2, hs3, hr1, hr2, hr3⟩ := id hF
  refine lv_aload_n hx hb d_ZA_serial_0 rfl (lv_at hl 0 rfl) ?_
  refine zg_get (ci := 10) (C := "ZoneAnswers") (T := T_ZA) (N := 3) hx hb hts zi_ZA hown hK hG hX rfl 1 (by decide) (hts _ w_704) (fun _ h9 => h9) rfl d_ZA_serial_1 ?_
  refine zk_i (va_runV (As := []) (rest := []) ⟨hx, hb, hml, hown, hts⟩ (t_Zo_serialNumber l E G zo la x st (0 + 1) sd 22 (zw4 (fun _ => 0) 2 1) hsd (zw4_fit zf_fit0) (by decide) hZz (by decide)) (zcV 0 hts w_717 w_718 w_719 w_3 w_720 (by decide +kernel) ⟨Nat.le_of_ble_eq_true rfl, Nat.le_of_ble_eq_true rfl⟩) (zc_preV hbase hK hN hQ hG hS hZz rfl) rfl rfl hl.1 rfl (lv_room (Nat.le_of_ble_eq_true rfl)) d_ZA_serial_4 ⟨(by decide), (by decide)⟩) hS (fun r4 G4 H locs hp4 hG hS => ?_)
  have hG : zP E G H := hp4.2 ▸ hG
  refine zi_as (y := zr4 (zw4 (fun _ => 0) 2 1) (22 - 20)) hp4.1 ?_
  refine lv_istore_n (lv' := [(2, .int (zr4 (zw4 (fun _ => 0) 2 1) (22 - 20))), (0, .ref xo), (1, .int y)]) hx hb d_ZA_serial_7 rfl hl (by decide) rfl (fun ls hl => ?_)
  refine lv_aload_n hx hb d_ZA_serial_8 rfl (lv_at hl 1 rfl) ?_
  refine zg_get (ci := 10) (C := "ZoneAnswers") (T := T_ZA) (N := 3) hx hb hts zi_ZA hown hK hG hX rfl 1 (by decide) (hts _ w_704) (fun _ h9 => h9) rfl d_ZA_serial_9 ?_
  refine lv_iload_n hx hb d_ZA_serial_12 rfl (lv_at hl 2 rfl) ?_
  have hGo13 := hG
  refine zk_v (va_runV (As := [.int y]) (rest := []) ⟨hx, hb, hml, hown, hts⟩ (t_Zo_changeSerial l E G zo la (.ref x) st (0 + 1) sd 22 (zw4 (fun _ => 0) 2 1) hsd (zw4_fit zf_fit0) (by decide) hZz (by decide) 6 0 da d3 dx [] hst hLd y (by decide)) (zcV 1 hts w_724 w_658 w_659 w_3 w_660 (by decide +kernel) ⟨Nat.le_of_ble_eq_true rfl, Nat.le_of_ble_eq_true rfl⟩) (zc_preV hbase hK hN hQ hG hS hZz rfl) rfl rfl hl.1 rfl (lv_room (Nat.le_of_ble_eq_true rfl)) d_ZA_serial_13 ⟨(by decide), (by decide)⟩) hS (fun G13 H locs hp13 hG hS => ?_)
  obtain ⟨q9, x9, d9, -, -, -, hx9, -⟩ := hp13
  refine lv_iload_n hx hb d_ZA_serial_16 rfl (lv_at hl 0 rfl) ?_
  exact hret _ _ _ _ _ _ _ _ _ hr (rfl) (⟨by decide +kernel, hx9⟩) hG hS (by decide) (by decide) d_ZA_serial_17
abbrev rm_ZA_count_f : Room := { frames := 6, cells := 0, slots := 0, locals := 180 }
set_option maxHeartbeats 4000000 in
set_option maxRecDepth 100000 in
/-- count(w), of a new object -/
theorem t_ZA_count_f (l : Launch) (E : zc_E) (G : zg_G) (xo ta zo an b la x st sd o ol da dx d0 d1 d3 bt s1 s2 s3 r1 r2 r3 : Nat) (hF : zNew E G xo ta zo an b la x st sd o ol da dx d0 d1 d3 bt s1 s2 s3 r1 r2 r3) (w : Int32) : zMi l E y_ZA_count c_ZA_count 2 (some .int) rm_ZA_count_f [.ref xo, .int w] G (fun (r : Int32) (G2 : zg_G) => r = zcnt w ∧ G2 = G) := by
  refine zMi.of (by decide) (Nat.le_of_ble_eq_true rfl) ?_
  intro p e s m args below meth c Q hZ hG hret ls hl
  obtain ⟨hx, hb, hr, hts, hown, hlocks, hml, hnm, hbase, hK, hN, hQ⟩ := hZ
  have hl : lv_has ls 2 [(0, .ref xo), (1, .int w)] := hl
  have hS : zg_S (zc_b E) s.heap s.heap [] := va_S.rf
  obtain ⟨hX, hT, hZz, hLo, ho, hLs, hst, hLd, hdx, hsd, hnx, hbt, han, hs1, hs2, hs3, hr1, hr2, hr3⟩ := id hF
  obtain ⟨k8, c8, f8, hla, hd8, h08, hc8, hz8, hf8⟩ := hLo.un
  obtain ⟨k7, c7, f7, hol, hd7, h07, hc7, hz7, hf7⟩ := hLs.un
  refine lv_iload_n hx hb d_ZA_count_0 rfl (lv_at hl 1 rfl) ?_
  by_cases s1_0 : w = 0
  · refine lv_tableIn (off := 47) (tgt := 48) hx hb d_ZA_count_1 (by rw [s1_0]; decide) (by rw [s1_0]; decide) (by rw [s1_0]; rfl) (by decide) ?_
    refine lv_aload_n hx hb d_ZA_count_48 rfl (lv_at hl 0 rfl) ?_
    refine zg_get (ci := 10) (C := "ZoneAnswers") (T := T_ZA) (N := 3) hx hb hts zi_ZA hown hK hG hX rfl 0 (by decide) (hts _ w_703) (fun _ h9 => h9) rfl d_ZA_count_49 ?_
    refine zk_i (va_runV (As := []) (rest := []) ⟨hx, hb, hml, hown, hts⟩ (t_Ta_length l E G ta b (nI 0) hT.1) (zcV 0 hts w_729 w_730 w_731 w_2 w_732 (by decide +kernel) ⟨Nat.le_of_ble_eq_true rfl, Nat.le_of_ble_eq_true rfl⟩) (zc_preV hbase hK hN hQ hG hS hT.1 rfl) rfl rfl hl.1 rfl (lv_room (Nat.le_of_ble_eq_true rfl)) d_ZA_count_52 ⟨(by decide), (by decide)⟩) hS (fun r52 G52 H locs hp52 hG hS => ?_)
    have hG : zP E G H := hp52.2 ▸ hG
    refine zi_as (y := nI 0) hp52.1 ?_
    exact hret _ _ _ _ _ _ _ _ _ hr (rfl) (⟨by rw [s1_0]; decide +kernel, rfl⟩) hG hS (Nat.le_refl _) (Nat.le_refl _) d_ZA_count_55
  by_cases s1_1 : w = 1
  · refine lv_tableIn (off := 55) (tgt := 56) hx hb d_ZA_count_1 (by rw [s1_1]; decide) (by rw [s1_1]; decide) (by rw [s1_1]; rfl) (by decide) ?_
    refine lv_aload_n hx hb d_ZA_count_56 rfl (lv_at hl 0 rfl) ?_
    refine zg_get (ci := 10) (C := "ZoneAnswers") (T := T_ZA) (N := 3) hx hb hts zi_ZA hown hK hG hX rfl 1 (by decide) (hts _ w_704) (fun _ h9 => h9) rfl d_ZA_count_57 ?_
    refine zk_i (va_runV (As := []) (rest := []) ⟨hx, hb, hml, hown, hts⟩ (t_Zo_recordCount l E G zo la x st sd (0 + 1) hZz) (zcV 0 hts w_733 w_734 w_735 w_3 w_736 (by decide +kernel) ⟨Nat.le_of_ble_eq_true rfl, Nat.le_of_ble_eq_true rfl⟩) (zc_preV hbase hK hN hQ hG hS hZz rfl) rfl rfl hl.1 rfl (lv_room (Nat.le_of_ble_eq_true rfl)) d_ZA_count_60 ⟨(by decide), (by decide)⟩) hS (fun r60 G60 H locs hp60 hG hS => ?_)
    have hG : zP E G H := hp60.2 ▸ hG
    refine zi_as (y := 0 + 1) hp60.1 ?_
    exact hret _ _ _ _ _ _ _ _ _ hr (rfl) (⟨by rw [s1_1]; decide +kernel, rfl⟩) hG hS (Nat.le_refl _) (Nat.le_refl _) d_ZA_count_63
  by_cases s1_2 : w = 2
  · refine lv_tableIn (off := 63) (tgt := 64) hx hb d_ZA_count_1 (by rw [s1_2]; decide) (by rw [s1_2]; decide) (by rw [s1_2]; rfl) (by decide) ?_
    refine lv_aload_n hx hb d_ZA_count_64 rfl (lv_at hl 0 rfl) ?_
    refine zg_get (ci := 10) (C := "ZoneAnswers") (T := T_ZA) (N := 3) hx hb hts zi_ZA hown hK hG hX rfl 1 (by decide) (hts _ w_704) (fun _ h9 => h9) rfl d_ZA_count_65 ?_
    refine zk_i (va_runV (As := []) (rest := []) ⟨hx, hb, hml, hown, hts⟩ (t_Zo_setCount_f l E G xo ta zo an b la x st sd o ol da dx d0 d1 d3 bt s1 s2 s3 r1 r2 r3 hF) (zcV 0 hts w_737 w_738 w_739 w_3 w_740 (by decide +kernel) ⟨Nat.le_of_ble_eq_true rfl, Nat.le_of_ble_eq_true rfl⟩) (zc_preV hbase hK hN hQ hG hS hZz rfl) rfl rfl hl.1 rfl (lv_room (Nat.le_of_ble_eq_true rfl)) d_ZA_count_68 ⟨(by decide), (by decide)⟩) hS (fun r68 G68 H locs hp68 hG hS => ?_)
    have hG : zP E G H := hp68.2 ▸ hG
    refine zi_as (y := nI 1) hp68.1 ?_
    exact hret _ _ _ _ _ _ _ _ _ hr (rfl) (⟨by rw [s1_2]; decide +kernel, rfl⟩) hG hS (Nat.le_refl _) (Nat.le_refl _) d_ZA_count_71
  by_cases s1_3 : w = 3
  · refine lv_tableIn (off := 71) (tgt := 72) hx hb d_ZA_count_1 (by rw [s1_3]; decide) (by rw [s1_3]; decide) (by rw [s1_3]; rfl) (by decide) ?_
    refine lv_aload_n hx hb d_ZA_count_72 rfl (lv_at hl 0 rfl) ?_
    refine zg_get (ci := 10) (C := "ZoneAnswers") (T := T_ZA) (N := 3) hx hb hts zi_ZA hown hK hG hX rfl 1 (by decide) (hts _ w_704) (fun _ h9 => h9) rfl d_ZA_count_73 ?_
    refine zk_i (va_runV (As := []) (rest := []) ⟨hx, hb, hml, hown, hts⟩ (t_Zo_ownerCount l E G zo la x st sd (0 + 1) hZz (.ref d0) (nI 1) k8 hla) (zcV 0 hts w_741 w_742 w_743 w_3 w_744 (by decide +kernel) ⟨Nat.le_of_ble_eq_true rfl, Nat.le_of_ble_eq_true rfl⟩) (zc_preV hbase hK hN hQ hG hS hZz rfl) rfl rfl hl.1 rfl (lv_room (Nat.le_of_ble_eq_true rfl)) d_ZA_count_76 ⟨(by decide), (by decide)⟩) hS (fun r76 G76 H locs hp76 hG hS => ?_)
    have hG : zP E G H := hp76.2 ▸ hG
    refine zi_as (y := nI 1) hp76.1 ?_
    exact hret _ _ _ _ _ _ _ _ _ hr (rfl) (⟨by rw [s1_3]; decide +kernel, rfl⟩) hG hS (Nat.le_refl _) (Nat.le_refl _) d_ZA_count_79
  by_cases s1_4 : w = 4
  · refine lv_tableIn (off := 79) (tgt := 80) hx hb d_ZA_count_1 (by rw [s1_4]; decide) (by rw [s1_4]; decide) (by rw [s1_4]; rfl) (by decide) ?_
    refine lv_aload_n hx hb d_ZA_count_80 rfl (lv_at hl 0 rfl) ?_
    refine zg_get (ci := 10) (C := "ZoneAnswers") (T := T_ZA) (N := 3) hx hb hts zi_ZA hown hK hG hX rfl 1 (by decide) (hts _ w_704) (fun _ h9 => h9) rfl d_ZA_count_81 ?_
    refine zk_i (va_runV (As := []) (rest := []) ⟨hx, hb, hml, hown, hts⟩ (t_Zo_thereCount_f l E G xo ta zo an b la x st sd o ol da dx d0 d1 d3 bt s1 s2 s3 r1 r2 r3 hF) (zcV 0 hts w_745 w_746 w_747 w_3 w_748 (by decide +kernel) ⟨Nat.le_of_ble_eq_true rfl, Nat.le_of_ble_eq_true rfl⟩) (zc_preV hbase hK hN hQ hG hS hZz rfl) rfl rfl hl.1 rfl (lv_room (Nat.le_of_ble_eq_true rfl)) d_ZA_count_84 ⟨(by decide), (by decide)⟩) hS (fun r84 G84 H locs hp84 hG hS => ?_)
    have hG : zP E G H := hp84.2 ▸ hG
    refine zi_as (y := nI 1) hp84.1 ?_
    exact hret _ _ _ _ _ _ _ _ _ hr (rfl) (⟨by rw [s1_4]; decide +kernel, rfl⟩) hG hS (Nat.le_refl _) (Nat.le_refl _) d_ZA_count_87
  by_cases s1_5 : w = 5
  · refine lv_tableIn (off := 87) (tgt := 88) hx hb d_ZA_count_1 (by rw [s1_5]; decide) (by rw [s1_5]; decide) (by rw [s1_5]; rfl) (by decide) ?_
    refine lv_aload_n hx hb d_ZA_count_88 rfl (lv_at hl 0 rfl) ?_
    refine zg_get (ci := 10) (C := "ZoneAnswers") (T := T_ZA) (N := 3) hx hb hts zi_ZA hown hK hG hX rfl 1 (by decide) (hts _ w_704) (fun _ h9 => h9) rfl d_ZA_count_89 ?_
    refine zk_i (va_runV (As := []) (rest := []) ⟨hx, hb, hml, hown, hts⟩ (t_Zo_chainCount_f l E G xo ta zo an b la x st sd o ol da dx d0 d1 d3 bt s1 s2 s3 r1 r2 r3 hF) (zcV 0 hts w_753 w_754 w_755 w_3 w_756 (by decide +kernel) ⟨Nat.le_of_ble_eq_true rfl, Nat.le_of_ble_eq_true rfl⟩) (zc_preV hbase hK hN hQ hG hS hZz rfl) rfl rfl hl.1 rfl (lv_room (Nat.le_of_ble_eq_true rfl)) d_ZA_count_92 ⟨(by decide), (by decide)⟩) hS (fun r92 G92 H locs hp92 hG hS => ?_)
    have hG : zP E G H := hp92.2 ▸ hG
    refine zi_as (y := nI 1) hp92.1 ?_
    exact hret _ _ _ _ _ _ _ _ _ hr (rfl) (⟨by rw [s1_5]; decide +kernel, rfl⟩) hG hS (Nat.le_refl _) (Nat.le_refl _) d_ZA_count_95
  by_cases s1_6 : w = 6
  · refine lv_tableIn (off := 95) (tgt := 96) hx hb d_ZA_count_1 (by rw [s1_6]; decide) (by rw [s1_6]; decide) (by rw [s1_6]; rfl) (by decide) ?_
    refine lv_aload_n hx hb d_ZA_count_96 rfl (lv_at hl 0 rfl) ?_
    refine zg_get (ci := 10) (C := "ZoneAnswers") (T := T_ZA) (N := 3) hx hb hts zi_ZA hown hK hG hX rfl 1 (by decide) (hts _ w_704) (fun _ h9 => h9) rfl d_ZA_count_97 ?_
    refine zk_i (va_runV (As := []) (rest := []) ⟨hx, hb, hml, hown, hts⟩ (t_Zo_cutCount_f l E G xo ta zo an b la x st sd o ol da dx d0 d1 d3 bt s1 s2 s3 r1 r2 r3 hF) (zcV 0 hts w_761 w_762 w_763 w_3 w_764 (by decide +kernel) ⟨Nat.le_of_ble_eq_true rfl, Nat.le_of_ble_eq_true rfl⟩) (zc_preV hbase hK hN hQ hG hS hZz rfl) rfl rfl hl.1 rfl (lv_room (Nat.le_of_ble_eq_true rfl)) d_ZA_count_100 ⟨(by decide), (by decide)⟩) hS (fun r100 G100 H locs hp100 hG hS => ?_)
    have hG : zP E G H := hp100.2 ▸ hG
    refine zi_as (y := nI 0) hp100.1 ?_
    exact hret _ _ _ _ _ _ _ _ _ hr (rfl) (⟨by rw [s1_6]; decide +kernel, rfl⟩) hG hS (Nat.le_refl _) (Nat.le_refl _) d_ZA_count_103
  by_cases s1_7 : w = 7
  · refine lv_tableIn (off := 103) (tgt := 104) hx hb d_ZA_count_1 (by rw [s1_7]; decide) (by rw [s1_7]; decide) (by rw [s1_7]; rfl) (by decide) ?_
    refine lv_aload_n hx hb d_ZA_count_104 rfl (lv_at hl 0 rfl) ?_
    refine zg_get (ci := 10) (C := "ZoneAnswers") (T := T_ZA) (N := 3) hx hb hts zi_ZA hown hK hG hX rfl 1 (by decide) (hts _ w_704) (fun _ h9 => h9) rfl d_ZA_count_105 ?_
    refine zk_i (va_runV (As := []) (rest := []) ⟨hx, hb, hml, hown, hts⟩ (t_Zo_serialNumber l E G zo la x st (0 + 1) sd 22 (zw4 (fun _ => 0) 2 1) hsd (zw4_fit zf_fit0) (by decide) hZz (by decide)) (zcV 0 hts w_717 w_718 w_719 w_3 w_720 (by decide +kernel) ⟨Nat.le_of_ble_eq_true rfl, Nat.le_of_ble_eq_true rfl⟩) (zc_preV hbase hK hN hQ hG hS hZz rfl) rfl rfl hl.1 rfl (lv_room (Nat.le_of_ble_eq_true rfl)) d_ZA_count_108 ⟨(by decide), (by decide)⟩) hS (fun r108 G108 H locs hp108 hG hS => ?_)
    have hG : zP E G H := hp108.2 ▸ hG
    refine zi_as (y := zr4 (zw4 (fun _ => 0) 2 1) (22 - 20)) hp108.1 ?_
    exact hret _ _ _ _ _ _ _ _ _ hr (rfl) (⟨by rw [s1_7]; decide +kernel, rfl⟩) hG hS (Nat.le_refl _) (Nat.le_refl _) d_ZA_count_111
  refine lv_tableOut (tgt := 112) hx hb d_ZA_count_1 (by have ns1_0 := lv_neT (k := 0) (a := 0) s1_0 (by decide); have ns1_1 := lv_neT (k := 1) (a := 1) s1_1 (by decide); have ns1_2 := lv_neT (k := 2) (a := 2) s1_2 (by decide); have ns1_3 := lv_neT (k := 3) (a := 3) s1_3 (by decide); have ns1_4 := lv_neT (k := 4) (a := 4) s1_4 (by decide); have ns1_5 := lv_neT (k := 5) (a := 5) s1_5 (by decide); have ns1_6 := lv_neT (k := 6) (a := 6) s1_6 (by decide); have ns1_7 := lv_neT (k := 7) (a := 7) s1_7 (by decide); omega) (by decide) ?_
  refine lv_iconst (v := -1) hx hb d_ZA_count_112 (by decide) ?_
  exact hret _ _ _ _ _ _ _ _ _ hr (rfl) (⟨by unfold zcnt; rw [if_neg s1_0, if_neg s1_1, if_neg s1_2, if_neg s1_3, if_neg s1_4, if_neg s1_5, if_neg s1_6, if_neg s1_7], rfl⟩) hG hS (Nat.le_refl _) (Nat.le_refl _) d_ZA_count_113
