/-! ===== the JDK's own lists: their members walked (names, decode rows) ===== -/
abbrev jb_pci : ByteArray := prog_29_method_11_code
def jy_pci : MethodName := ⟨"jdk/internal/util/Preconditions", "checkIndex", "(IILjava/util/function/BiFunction;)I"⟩
abbrev jw_pci : List Cond := Cond.code jy_pci jb_pci 3 (some .int) :: xm_tb
theorem jd_pci_0 : decode jb_pci 0 = .ok (.iload_n 0, 1) := by decide +kernel
theorem jd_pci_1 : decode jb_pci 1 = .ok (.ifCond .lt (8), 3) := by decide +kernel
theorem jd_pci_4 : decode jb_pci 4 = .ok (.iload_n 0, 1) := by decide +kernel
theorem jd_pci_5 : decode jb_pci 5 = .ok (.iload_n 1, 1) := by decide +kernel
theorem jd_pci_6 : decode jb_pci 6 = .ok (.if_icmp .lt (10), 3) := by decide +kernel
theorem jd_pci_16 : decode jb_pci 16 = .ok (.iload_n 0, 1) := by decide +kernel
theorem jd_pci_17 : decode jb_pci 17 = .ok (.ireturn, 1) := by decide +kernel
abbrev jb_oci : ByteArray := prog_25_method_17_code
def jy_oci : MethodName := ⟨"java/util/Objects", "checkIndex", "(II)I"⟩
abbrev jw_oci : List Cond := Cond.code jy_oci jb_oci 2 (some .int) :: xm_tb
theorem jd_oci_0 : decode jb_oci 0 = .ok (.iload_n 0, 1) := by decide +kernel
theorem jd_oci_1 : decode jb_oci 1 = .ok (.iload_n 1, 1) := by decide +kernel
theorem jd_oci_2 : decode jb_oci 2 = .ok (.aconst_null, 1) := by decide +kernel
theorem jd_oci_3 : decode jb_oci 3 = .ok (.invokestatic 105, 3) := by decide +kernel
theorem jd_oci_6 : decode jb_oci 6 = .ok (.ireturn, 1) := by decide +kernel
abbrev jb_size : ByteArray := prog_21_method_8_code
def jy_size : MethodName := ⟨"java/util/ArrayList", "size", "()I"⟩
abbrev jw_size : List Cond := Cond.code jy_size jb_size 1 (some .int) :: xm_tb
theorem jd_size_0 : decode jb_size 0 = .ok (.aload_n 0, 1) := by decide +kernel
theorem jd_size_1 : decode jb_size 1 = .ok (.getfield 48, 3) := by decide +kernel
theorem jd_size_4 : decode jb_size 4 = .ok (.ireturn, 1) := by decide +kernel
abbrev jb_emp : ByteArray := prog_21_method_9_code
def jy_emp : MethodName := ⟨"java/util/ArrayList", "isEmpty", "()Z"⟩
abbrev jw_emp : List Cond := Cond.code jy_emp jb_emp 1 (some .boolean) :: xm_tb
theorem jd_emp_0 : decode jb_emp 0 = .ok (.aload_n 0, 1) := by decide +kernel
theorem jd_emp_1 : decode jb_emp 1 = .ok (.getfield 48, 3) := by decide +kernel
theorem jd_emp_4 : decode jb_emp 4 = .ok (.ifCond .ne (7), 3) := by decide +kernel
theorem jd_emp_7 : decode jb_emp 7 = .ok (.iconst (1), 1) := by decide +kernel
theorem jd_emp_8 : decode jb_emp 8 = .ok (.goto (4), 3) := by decide +kernel
theorem jd_emp_11 : decode jb_emp 11 = .ok (.iconst (0), 1) := by decide +kernel
theorem jd_emp_12 : decode jb_emp 12 = .ok (.ireturn, 1) := by decide +kernel
abbrev jb_eld : ByteArray := prog_21_method_18_code
def jy_eld : MethodName := ⟨"java/util/ArrayList", "elementData", "(I)Ljava/lang/Object;"⟩
abbrev jw_eld : List Cond := Cond.code jy_eld jb_eld 2 (some (.object "java/lang/Object")) :: xm_tb
theorem jd_eld_0 : decode jb_eld 0 = .ok (.aload_n 0, 1) := by decide +kernel
theorem jd_eld_1 : decode jb_eld 1 = .ok (.getfield 9, 3) := by decide +kernel
theorem jd_eld_4 : decode jb_eld 4 = .ok (.iload_n 1, 1) := by decide +kernel
theorem jd_eld_5 : decode jb_eld 5 = .ok (.aaload, 1) := by decide +kernel
theorem jd_eld_6 : decode jb_eld 6 = .ok (.areturn, 1) := by decide +kernel
abbrev jb_get : ByteArray := prog_21_method_20_code
def jy_get : MethodName := ⟨"java/util/ArrayList", "get", "(I)Ljava/lang/Object;"⟩
abbrev jw_get : List Cond := Cond.code jy_get jb_get 2 (some (.object "java/lang/Object")) :: xm_tb
theorem jd_get_0 : decode jb_get 0 = .ok (.iload_n 1, 1) := by decide +kernel
theorem jd_get_1 : decode jb_get 1 = .ok (.aload_n 0, 1) := by decide +kernel
theorem jd_get_2 : decode jb_get 2 = .ok (.getfield 48, 3) := by decide +kernel
theorem jd_get_5 : decode jb_get 5 = .ok (.invokestatic 118, 3) := by decide +kernel
theorem jd_get_8 : decode jb_get 8 = .ok (.pop, 1) := by decide +kernel
theorem jd_get_9 : decode jb_get 9 = .ok (.aload_n 0, 1) := by decide +kernel
theorem jd_get_10 : decode jb_get 10 = .ok (.iload_n 1, 1) := by decide +kernel
theorem jd_get_11 : decode jb_get 11 = .ok (.invokevirtual 123, 3) := by decide +kernel
theorem jd_get_14 : decode jb_get 14 = .ok (.areturn, 1) := by decide +kernel
abbrev jb_set : ByteArray := prog_21_method_23_code
def jy_set : MethodName := ⟨"java/util/ArrayList", "set", "(ILjava/lang/Object;)Ljava/lang/Object;"⟩
abbrev jw_set : List Cond := Cond.code jy_set jb_set 4 (some (.object "java/lang/Object")) :: xm_tb
theorem jd_set_0 : decode jb_set 0 = .ok (.iload_n 1, 1) := by decide +kernel
theorem jd_set_1 : decode jb_set 1 = .ok (.aload_n 0, 1) := by decide +kernel
theorem jd_set_2 : decode jb_set 2 = .ok (.getfield 48, 3) := by decide +kernel
theorem jd_set_5 : decode jb_set 5 = .ok (.invokestatic 118, 3) := by decide +kernel
theorem jd_set_8 : decode jb_set 8 = .ok (.pop, 1) := by decide +kernel
theorem jd_set_9 : decode jb_set 9 = .ok (.aload_n 0, 1) := by decide +kernel
theorem jd_set_10 : decode jb_set 10 = .ok (.iload_n 1, 1) := by decide +kernel
theorem jd_set_11 : decode jb_set 11 = .ok (.invokevirtual 123, 3) := by decide +kernel
theorem jd_set_14 : decode jb_set 14 = .ok (.astore_n 3, 1) := by decide +kernel
theorem jd_set_15 : decode jb_set 15 = .ok (.aload_n 0, 1) := by decide +kernel
theorem jd_set_16 : decode jb_set 16 = .ok (.getfield 9, 3) := by decide +kernel
theorem jd_set_19 : decode jb_set 19 = .ok (.iload_n 1, 1) := by decide +kernel
theorem jd_set_20 : decode jb_set 20 = .ok (.aload_n 2, 1) := by decide +kernel
theorem jd_set_21 : decode jb_set 21 = .ok (.aastore, 1) := by decide +kernel
theorem jd_set_22 : decode jb_set 22 = .ok (.aload_n 3, 1) := by decide +kernel
theorem jd_set_23 : decode jb_set 23 = .ok (.areturn, 1) := by decide +kernel
abbrev jb_rem : ByteArray := prog_21_method_29_code
def jy_rem : MethodName := ⟨"java/util/ArrayList", "remove", "(I)Ljava/lang/Object;"⟩
abbrev jw_rem : List Cond := Cond.code jy_rem jb_rem 4 (some (.object "java/lang/Object")) :: xm_tb
theorem jd_rem_0 : decode jb_rem 0 = .ok (.iload_n 1, 1) := by decide +kernel
theorem jd_rem_1 : decode jb_rem 1 = .ok (.aload_n 0, 1) := by decide +kernel
theorem jd_rem_2 : decode jb_rem 2 = .ok (.getfield 48, 3) := by decide +kernel
theorem jd_rem_5 : decode jb_rem 5 = .ok (.invokestatic 118, 3) := by decide +kernel
theorem jd_rem_8 : decode jb_rem 8 = .ok (.pop, 1) := by decide +kernel
theorem jd_rem_9 : decode jb_rem 9 = .ok (.aload_n 0, 1) := by decide +kernel
theorem jd_rem_10 : decode jb_rem 10 = .ok (.getfield 9, 3) := by decide +kernel
theorem jd_rem_13 : decode jb_rem 13 = .ok (.astore_n 2, 1) := by decide +kernel
theorem jd_rem_14 : decode jb_rem 14 = .ok (.aload_n 2, 1) := by decide +kernel
theorem jd_rem_15 : decode jb_rem 15 = .ok (.iload_n 1, 1) := by decide +kernel
theorem jd_rem_16 : decode jb_rem 16 = .ok (.aaload, 1) := by decide +kernel
theorem jd_rem_17 : decode jb_rem 17 = .ok (.astore_n 3, 1) := by decide +kernel
theorem jd_rem_18 : decode jb_rem 18 = .ok (.aload_n 0, 1) := by decide +kernel
theorem jd_rem_19 : decode jb_rem 19 = .ok (.aload_n 2, 1) := by decide +kernel
theorem jd_rem_20 : decode jb_rem 20 = .ok (.iload_n 1, 1) := by decide +kernel
theorem jd_rem_21 : decode jb_rem 21 = .ok (.invokevirtual 144, 3) := by decide +kernel
theorem jd_rem_24 : decode jb_rem 24 = .ok (.aload_n 3, 1) := by decide +kernel
theorem jd_rem_25 : decode jb_rem 25 = .ok (.areturn, 1) := by decide +kernel
abbrev jb_frm : ByteArray := prog_21_method_39_code
def jy_frm : MethodName := ⟨"java/util/ArrayList", "fastRemove", "([Ljava/lang/Object;I)V"⟩
abbrev jw_frm : List Cond := Cond.code jy_frm jb_frm 4 none :: xm_tb
theorem jd_frm_0 : decode jb_frm 0 = .ok (.aload_n 0, 1) := by decide +kernel
theorem jd_frm_1 : decode jb_frm 1 = .ok (.dup, 1) := by decide +kernel
theorem jd_frm_2 : decode jb_frm 2 = .ok (.getfield 63, 3) := by decide +kernel
theorem jd_frm_5 : decode jb_frm 5 = .ok (.iconst (1), 1) := by decide +kernel
theorem jd_frm_6 : decode jb_frm 6 = .ok (.iadd, 1) := by decide +kernel
theorem jd_frm_7 : decode jb_frm 7 = .ok (.putfield 63, 3) := by decide +kernel
theorem jd_frm_10 : decode jb_frm 10 = .ok (.aload_n 0, 1) := by decide +kernel
theorem jd_frm_11 : decode jb_frm 11 = .ok (.getfield 48, 3) := by decide +kernel
theorem jd_frm_14 : decode jb_frm 14 = .ok (.iconst (1), 1) := by decide +kernel
theorem jd_frm_15 : decode jb_frm 15 = .ok (.isub, 1) := by decide +kernel
theorem jd_frm_16 : decode jb_frm 16 = .ok (.dup, 1) := by decide +kernel
theorem jd_frm_17 : decode jb_frm 17 = .ok (.istore_n 3, 1) := by decide +kernel
theorem jd_frm_18 : decode jb_frm 18 = .ok (.iload_n 2, 1) := by decide +kernel
theorem jd_frm_19 : decode jb_frm 19 = .ok (.if_icmp .le (15), 3) := by decide +kernel
theorem jd_frm_22 : decode jb_frm 22 = .ok (.aload_n 1, 1) := by decide +kernel
theorem jd_frm_23 : decode jb_frm 23 = .ok (.iload_n 2, 1) := by decide +kernel
theorem jd_frm_24 : decode jb_frm 24 = .ok (.iconst (1), 1) := by decide +kernel
theorem jd_frm_25 : decode jb_frm 25 = .ok (.iadd, 1) := by decide +kernel
theorem jd_frm_26 : decode jb_frm 26 = .ok (.aload_n 1, 1) := by decide +kernel
theorem jd_frm_27 : decode jb_frm 27 = .ok (.iload_n 2, 1) := by decide +kernel
theorem jd_frm_28 : decode jb_frm 28 = .ok (.iload_n 3, 1) := by decide +kernel
theorem jd_frm_29 : decode jb_frm 29 = .ok (.iload_n 2, 1) := by decide +kernel
theorem jd_frm_30 : decode jb_frm 30 = .ok (.isub, 1) := by decide +kernel
theorem jd_frm_31 : decode jb_frm 31 = .ok (.invokestatic 112, 3) := by decide +kernel
theorem jd_frm_34 : decode jb_frm 34 = .ok (.aload_n 1, 1) := by decide +kernel
theorem jd_frm_35 : decode jb_frm 35 = .ok (.aload_n 0, 1) := by decide +kernel
theorem jd_frm_36 : decode jb_frm 36 = .ok (.iload_n 3, 1) := by decide +kernel
theorem jd_frm_37 : decode jb_frm 37 = .ok (.dup_x1, 1) := by decide +kernel
theorem jd_frm_38 : decode jb_frm 38 = .ok (.putfield 48, 3) := by decide +kernel
theorem jd_frm_41 : decode jb_frm 41 = .ok (.aconst_null, 1) := by decide +kernel
theorem jd_frm_42 : decode jb_frm 42 = .ok (.aastore, 1) := by decide +kernel
theorem jd_frm_43 : decode jb_frm 43 = .ok (.return_, 1) := by decide +kernel
abbrev jb_ini : ByteArray := prog_21_method_2_code
def jy_ini : MethodName := ⟨"java/util/ArrayList", "<init>", "()V"⟩
abbrev jw_ini : List Cond := Cond.code jy_ini jb_ini 1 none :: xm_tb
theorem jd_ini_0 : decode jb_ini 0 = .ok (.aload_n 0, 1) := by decide +kernel
theorem jd_ini_1 : decode jb_ini 1 = .ok (.invokespecial 1, 3) := by decide +kernel
theorem jd_ini_4 : decode jb_ini 4 = .ok (.aload_n 0, 1) := by decide +kernel
theorem jd_ini_5 : decode jb_ini 5 = .ok (.getstatic 39, 3) := by decide +kernel
theorem jd_ini_8 : decode jb_ini 8 = .ok (.putfield 9, 3) := by decide +kernel
theorem jd_ini_11 : decode jb_ini 11 = .ok (.return_, 1) := by decide +kernel
abbrev jb_ali : ByteArray := prog_20_method_1_code
def jy_ali : MethodName := ⟨"java/util/AbstractList", "<init>", "()V"⟩
abbrev jw_ali : List Cond := Cond.code jy_ali jb_ali 1 none :: xm_tb
theorem jd_ali_0 : decode jb_ali 0 = .ok (.aload_n 0, 1) := by decide +kernel
theorem jd_ali_1 : decode jb_ali 1 = .ok (.invokespecial 1, 3) := by decide +kernel
theorem jd_ali_4 : decode jb_ali 4 = .ok (.aload_n 0, 1) := by decide +kernel
theorem jd_ali_5 : decode jb_ali 5 = .ok (.iconst (0), 1) := by decide +kernel
theorem jd_ali_6 : decode jb_ali 6 = .ok (.putfield 7, 3) := by decide +kernel
theorem jd_ali_9 : decode jb_ali 9 = .ok (.return_, 1) := by decide +kernel
abbrev jb_aci : ByteArray := prog_19_method_1_code
def jy_aci : MethodName := ⟨"java/util/AbstractCollection", "<init>", "()V"⟩
abbrev jw_aci : List Cond := Cond.code jy_aci jb_aci 1 none :: xm_tb
theorem jd_aci_0 : decode jb_aci 0 = .ok (.aload_n 0, 1) := by decide +kernel
theorem jd_aci_1 : decode jb_aci 1 = .ok (.invokespecial 1, 3) := by decide +kernel
theorem jd_aci_4 : decode jb_aci 4 = .ok (.return_, 1) := by decide +kernel
abbrev jb_add : ByteArray := prog_21_method_25_code
def jy_add : MethodName := ⟨"java/util/ArrayList", "add", "(Ljava/lang/Object;)Z"⟩
abbrev jw_add : List Cond := Cond.code jy_add jb_add 2 (some .boolean) :: xm_tb
theorem jd_add_0 : decode jb_add 0 = .ok (.aload_n 0, 1) := by decide +kernel
theorem jd_add_1 : decode jb_add 1 = .ok (.dup, 1) := by decide +kernel
theorem jd_add_2 : decode jb_add 2 = .ok (.getfield 63, 3) := by decide +kernel
theorem jd_add_5 : decode jb_add 5 = .ok (.iconst (1), 1) := by decide +kernel
theorem jd_add_6 : decode jb_add 6 = .ok (.iadd, 1) := by decide +kernel
theorem jd_add_7 : decode jb_add 7 = .ok (.putfield 63, 3) := by decide +kernel
theorem jd_add_10 : decode jb_add 10 = .ok (.aload_n 0, 1) := by decide +kernel
theorem jd_add_11 : decode jb_add 11 = .ok (.aload_n 1, 1) := by decide +kernel
theorem jd_add_12 : decode jb_add 12 = .ok (.aload_n 0, 1) := by decide +kernel
theorem jd_add_13 : decode jb_add 13 = .ok (.getfield 9, 3) := by decide +kernel
theorem jd_add_16 : decode jb_add 16 = .ok (.aload_n 0, 1) := by decide +kernel
theorem jd_add_17 : decode jb_add 17 = .ok (.getfield 48, 3) := by decide +kernel
theorem jd_add_20 : decode jb_add 20 = .ok (.invokevirtual 131, 3) := by decide +kernel
theorem jd_add_23 : decode jb_add 23 = .ok (.iconst (1), 1) := by decide +kernel
theorem jd_add_24 : decode jb_add 24 = .ok (.ireturn, 1) := by decide +kernel
abbrev jb_ad3 : ByteArray := prog_21_method_24_code
def jy_ad3 : MethodName := ⟨"java/util/ArrayList", "add", "(Ljava/lang/Object;[Ljava/lang/Object;I)V"⟩
abbrev jw_ad3 : List Cond := Cond.code jy_ad3 jb_ad3 4 none :: xm_tb
theorem jd_ad3_0 : decode jb_ad3 0 = .ok (.iload_n 3, 1) := by decide +kernel
theorem jd_ad3_1 : decode jb_ad3 1 = .ok (.aload_n 2, 1) := by decide +kernel
theorem jd_ad3_2 : decode jb_ad3 2 = .ok (.arraylength, 1) := by decide +kernel
theorem jd_ad3_3 : decode jb_ad3 3 = .ok (.if_icmp .ne (8), 3) := by decide +kernel
theorem jd_ad3_6 : decode jb_ad3 6 = .ok (.aload_n 0, 1) := by decide +kernel
theorem jd_ad3_7 : decode jb_ad3 7 = .ok (.invokevirtual 129, 3) := by decide +kernel
theorem jd_ad3_10 : decode jb_ad3 10 = .ok (.astore_n 2, 1) := by decide +kernel
theorem jd_ad3_11 : decode jb_ad3 11 = .ok (.aload_n 2, 1) := by decide +kernel
theorem jd_ad3_12 : decode jb_ad3 12 = .ok (.iload_n 3, 1) := by decide +kernel
theorem jd_ad3_13 : decode jb_ad3 13 = .ok (.aload_n 1, 1) := by decide +kernel
theorem jd_ad3_14 : decode jb_ad3 14 = .ok (.aastore, 1) := by decide +kernel
theorem jd_ad3_15 : decode jb_ad3 15 = .ok (.aload_n 0, 1) := by decide +kernel
theorem jd_ad3_16 : decode jb_ad3 16 = .ok (.iload_n 3, 1) := by decide +kernel
theorem jd_ad3_17 : decode jb_ad3 17 = .ok (.iconst (1), 1) := by decide +kernel
theorem jd_ad3_18 : decode jb_ad3 18 = .ok (.iadd, 1) := by decide +kernel
theorem jd_ad3_19 : decode jb_ad3 19 = .ok (.putfield 48, 3) := by decide +kernel
theorem jd_ad3_22 : decode jb_ad3 22 = .ok (.return_, 1) := by decide +kernel
abbrev jb_gr0 : ByteArray := prog_21_method_7_code
def jy_gr0 : MethodName := ⟨"java/util/ArrayList", "grow", "()[Ljava/lang/Object;"⟩
abbrev jw_gr0 : List Cond := Cond.code jy_gr0 jb_gr0 1 (some (.array (.object "java/lang/Object"))) :: xm_tb
theorem jd_gr0_0 : decode jb_gr0 0 = .ok (.aload_n 0, 1) := by decide +kernel
theorem jd_gr0_1 : decode jb_gr0 1 = .ok (.aload_n 0, 1) := by decide +kernel
theorem jd_gr0_2 : decode jb_gr0 2 = .ok (.getfield 48, 3) := by decide +kernel
theorem jd_gr0_5 : decode jb_gr0 5 = .ok (.iconst (1), 1) := by decide +kernel
theorem jd_gr0_6 : decode jb_gr0 6 = .ok (.iadd, 1) := by decide +kernel
theorem jd_gr0_7 : decode jb_gr0 7 = .ok (.invokevirtual 69, 3) := by decide +kernel
theorem jd_gr0_10 : decode jb_gr0 10 = .ok (.areturn, 1) := by decide +kernel
abbrev jb_gr1 : ByteArray := prog_21_method_6_code
def jy_gr1 : MethodName := ⟨"java/util/ArrayList", "grow", "(I)[Ljava/lang/Object;"⟩
abbrev jw_gr1 : List Cond := Cond.code jy_gr1 jb_gr1 4 (some (.array (.object "java/lang/Object"))) :: xm_tb
theorem jd_gr1_0 : decode jb_gr1 0 = .ok (.aload_n 0, 1) := by decide +kernel
theorem jd_gr1_1 : decode jb_gr1 1 = .ok (.getfield 9, 3) := by decide +kernel
theorem jd_gr1_4 : decode jb_gr1 4 = .ok (.arraylength, 1) := by decide +kernel
theorem jd_gr1_5 : decode jb_gr1 5 = .ok (.istore_n 2, 1) := by decide +kernel
theorem jd_gr1_6 : decode jb_gr1 6 = .ok (.iload_n 2, 1) := by decide +kernel
theorem jd_gr1_7 : decode jb_gr1 7 = .ok (.ifCond .gt (13), 3) := by decide +kernel
theorem jd_gr1_10 : decode jb_gr1 10 = .ok (.aload_n 0, 1) := by decide +kernel
theorem jd_gr1_11 : decode jb_gr1 11 = .ok (.getfield 9, 3) := by decide +kernel
theorem jd_gr1_14 : decode jb_gr1 14 = .ok (.getstatic 39, 3) := by decide +kernel
theorem jd_gr1_17 : decode jb_gr1 17 = .ok (.if_acmp .eq (28), 3) := by decide +kernel
theorem jd_gr1_20 : decode jb_gr1 20 = .ok (.iload_n 2, 1) := by decide +kernel
theorem jd_gr1_21 : decode jb_gr1 21 = .ok (.iload_n 1, 1) := by decide +kernel
theorem jd_gr1_22 : decode jb_gr1 22 = .ok (.iload_n 2, 1) := by decide +kernel
theorem jd_gr1_23 : decode jb_gr1 23 = .ok (.isub, 1) := by decide +kernel
theorem jd_gr1_24 : decode jb_gr1 24 = .ok (.iload_n 2, 1) := by decide +kernel
theorem jd_gr1_25 : decode jb_gr1 25 = .ok (.iconst (1), 1) := by decide +kernel
theorem jd_gr1_26 : decode jb_gr1 26 = .ok (.ishr, 1) := by decide +kernel
theorem jd_gr1_27 : decode jb_gr1 27 = .ok (.invokestatic 73, 3) := by decide +kernel
theorem jd_gr1_30 : decode jb_gr1 30 = .ok (.istore_n 3, 1) := by decide +kernel
theorem jd_gr1_31 : decode jb_gr1 31 = .ok (.aload_n 0, 1) := by decide +kernel
theorem jd_gr1_32 : decode jb_gr1 32 = .ok (.aload_n 0, 1) := by decide +kernel
theorem jd_gr1_33 : decode jb_gr1 33 = .ok (.getfield 9, 3) := by decide +kernel
theorem jd_gr1_36 : decode jb_gr1 36 = .ok (.iload_n 3, 1) := by decide +kernel
theorem jd_gr1_37 : decode jb_gr1 37 = .ok (.invokestatic 66, 3) := by decide +kernel
theorem jd_gr1_40 : decode jb_gr1 40 = .ok (.dup_x1, 1) := by decide +kernel
theorem jd_gr1_41 : decode jb_gr1 41 = .ok (.putfield 9, 3) := by decide +kernel
theorem jd_gr1_44 : decode jb_gr1 44 = .ok (.areturn, 1) := by decide +kernel
theorem jd_gr1_45 : decode jb_gr1 45 = .ok (.aload_n 0, 1) := by decide +kernel
theorem jd_gr1_46 : decode jb_gr1 46 = .ok (.bipush (10), 2) := by decide +kernel
theorem jd_gr1_48 : decode jb_gr1 48 = .ok (.iload_n 1, 1) := by decide +kernel
theorem jd_gr1_49 : decode jb_gr1 49 = .ok (.invokestatic 79, 3) := by decide +kernel
theorem jd_gr1_52 : decode jb_gr1 52 = .ok (.anewarray 7, 3) := by decide +kernel
theorem jd_gr1_55 : decode jb_gr1 55 = .ok (.dup_x1, 1) := by decide +kernel
theorem jd_gr1_56 : decode jb_gr1 56 = .ok (.putfield 9, 3) := by decide +kernel
theorem jd_gr1_59 : decode jb_gr1 59 = .ok (.areturn, 1) := by decide +kernel
abbrev jb_nln : ByteArray := prog_28_method_27_code
def jy_nln : MethodName := ⟨"jdk/internal/util/ArraysSupport", "newLength", "(III)I"⟩
abbrev jw_nln : List Cond := Cond.code jy_nln jb_nln 4 (some .int) :: xm_tb
theorem jd_nln_0 : decode jb_nln 0 = .ok (.iload_n 0, 1) := by decide +kernel
theorem jd_nln_1 : decode jb_nln 1 = .ok (.iload_n 1, 1) := by decide +kernel
theorem jd_nln_2 : decode jb_nln 2 = .ok (.iload_n 2, 1) := by decide +kernel
theorem jd_nln_3 : decode jb_nln 3 = .ok (.invokestatic 194, 3) := by decide +kernel
theorem jd_nln_6 : decode jb_nln 6 = .ok (.iadd, 1) := by decide +kernel
theorem jd_nln_7 : decode jb_nln 7 = .ok (.istore_n 3, 1) := by decide +kernel
theorem jd_nln_8 : decode jb_nln 8 = .ok (.iconst (0), 1) := by decide +kernel
theorem jd_nln_9 : decode jb_nln 9 = .ok (.iload_n 3, 1) := by decide +kernel
theorem jd_nln_10 : decode jb_nln 10 = .ok (.if_icmp .ge (11), 3) := by decide +kernel
theorem jd_nln_13 : decode jb_nln 13 = .ok (.iload_n 3, 1) := by decide +kernel
theorem jd_nln_14 : decode jb_nln 14 = .ok (.ldc 200, 2) := by decide +kernel
theorem jd_nln_16 : decode jb_nln 16 = .ok (.if_icmp .gt (5), 3) := by decide +kernel
theorem jd_nln_19 : decode jb_nln 19 = .ok (.iload_n 3, 1) := by decide +kernel
theorem jd_nln_20 : decode jb_nln 20 = .ok (.ireturn, 1) := by decide +kernel
theorem jd_nln_21 : decode jb_nln 21 = .ok (.iload_n 0, 1) := by decide +kernel
theorem jd_nln_22 : decode jb_nln 22 = .ok (.iload_n 1, 1) := by decide +kernel
theorem jd_nln_23 : decode jb_nln 23 = .ok (.invokestatic 201, 3) := by decide +kernel
theorem jd_nln_26 : decode jb_nln 26 = .ok (.ireturn, 1) := by decide +kernel
abbrev jb_cp2 : ByteArray := prog_22_method_119_code
def jy_cp2 : MethodName := ⟨"java/util/Arrays", "copyOf", "([Ljava/lang/Object;I)[Ljava/lang/Object;"⟩
abbrev jw_cp2 : List Cond := Cond.code jy_cp2 jb_cp2 2 (some (.array (.object "java/lang/Object"))) :: xm_tb
theorem jd_cp2_0 : decode jb_cp2 0 = .ok (.aload_n 0, 1) := by decide +kernel
theorem jd_cp2_1 : decode jb_cp2 1 = .ok (.iload_n 1, 1) := by decide +kernel
theorem jd_cp2_2 : decode jb_cp2 2 = .ok (.aload_n 0, 1) := by decide +kernel
theorem jd_cp2_3 : decode jb_cp2 3 = .ok (.invokevirtual 86, 3) := by decide +kernel
theorem jd_cp2_6 : decode jb_cp2 6 = .ok (.invokestatic 300, 3) := by decide +kernel
theorem jd_cp2_9 : decode jb_cp2 9 = .ok (.areturn, 1) := by decide +kernel
abbrev jb_cp3 : ByteArray := prog_22_method_120_code
def jy_cp3 : MethodName := ⟨"java/util/Arrays", "copyOf", "([Ljava/lang/Object;ILjava/lang/Class;)[Ljava/lang/Object;"⟩
abbrev jw_cp3 : List Cond := Cond.code jy_cp3 jb_cp3 4 (some (.array (.object "java/lang/Object"))) :: xm_tb
theorem jd_cp3_0 : decode jb_cp3 0 = .ok (.aload_n 2, 1) := by decide +kernel
theorem jd_cp3_1 : decode jb_cp3 1 = .ok (.ldc 110, 2) := by decide +kernel
theorem jd_cp3_3 : decode jb_cp3 3 = .ok (.if_acmp .ne (10), 3) := by decide +kernel
theorem jd_cp3_6 : decode jb_cp3 6 = .ok (.iload_n 1, 1) := by decide +kernel
theorem jd_cp3_7 : decode jb_cp3 7 = .ok (.anewarray 2, 3) := by decide +kernel
theorem jd_cp3_10 : decode jb_cp3 10 = .ok (.goto (14), 3) := by decide +kernel
theorem jd_cp3_24 : decode jb_cp3 24 = .ok (.astore_n 3, 1) := by decide +kernel
theorem jd_cp3_25 : decode jb_cp3 25 = .ok (.aload_n 0, 1) := by decide +kernel
theorem jd_cp3_26 : decode jb_cp3 26 = .ok (.iconst (0), 1) := by decide +kernel
theorem jd_cp3_27 : decode jb_cp3 27 = .ok (.aload_n 3, 1) := by decide +kernel
theorem jd_cp3_28 : decode jb_cp3 28 = .ok (.iconst (0), 1) := by decide +kernel
theorem jd_cp3_29 : decode jb_cp3 29 = .ok (.aload_n 0, 1) := by decide +kernel
theorem jd_cp3_30 : decode jb_cp3 30 = .ok (.arraylength, 1) := by decide +kernel
theorem jd_cp3_31 : decode jb_cp3 31 = .ok (.iload_n 1, 1) := by decide +kernel
theorem jd_cp3_32 : decode jb_cp3 32 = .ok (.invokestatic 304, 3) := by decide +kernel
theorem jd_cp3_35 : decode jb_cp3 35 = .ok (.invokestatic 150, 3) := by decide +kernel
theorem jd_cp3_38 : decode jb_cp3 38 = .ok (.aload_n 3, 1) := by decide +kernel
theorem jd_cp3_39 : decode jb_cp3 39 = .ok (.areturn, 1) := by decide +kernel
theorem xj_in {w : Cond} (h : w ∈ tables_1) (hg : goodWord w = true) : w ∈ xm_tb := List.mem_filter.mpr ⟨List.mem_append_right _ h, hg⟩
theorem jc_pci : Cond.code jy_pci jb_pci 3 (some .int) ∈ xm_tb := xm_code_of (List.mem_append_left _ (List.mem_of_getElem? (i := 231) rfl))
theorem jg_pci : GoodIn xm_tb jw_pci := fun w h => (List.mem_cons.mp h).elim (fun e => by rw [e]; exact xm_tb_good _ jc_pci) (fun h => xm_tb_good _ h)
theorem jc_oci : Cond.code jy_oci jb_oci 2 (some .int) ∈ xm_tb := xm_code_of (List.mem_append_left _ (List.mem_of_getElem? (i := 228) rfl))
theorem jg_oci : GoodIn xm_tb jw_oci := fun w h => (List.mem_cons.mp h).elim (fun e => by rw [e]; exact xm_tb_good _ jc_oci) (fun h => xm_tb_good _ h)
theorem jc_size : Cond.code jy_size jb_size 1 (some .int) ∈ xm_tb := xm_code_of (List.mem_append_left _ (List.mem_of_getElem? (i := 129) rfl))
theorem jg_size : GoodIn xm_tb jw_size := fun w h => (List.mem_cons.mp h).elim (fun e => by rw [e]; exact xm_tb_good _ jc_size) (fun h => xm_tb_good _ h)
theorem jc_emp : Cond.code jy_emp jb_emp 1 (some .boolean) ∈ xm_tb := xm_code_of (List.mem_append_right _ (List.mem_append_right _ (List.mem_append_left _ (List.mem_of_getElem? (i := 211) rfl))))
theorem jg_emp : GoodIn xm_tb jw_emp := fun w h => (List.mem_cons.mp h).elim (fun e => by rw [e]; exact xm_tb_good _ jc_emp) (fun h => xm_tb_good _ h)
theorem jc_eld : Cond.code jy_eld jb_eld 2 (some (.object "java/lang/Object")) ∈ xm_tb := xm_code_of (List.mem_append_left _ (List.mem_of_getElem? (i := 235) rfl))
theorem jg_eld : GoodIn xm_tb jw_eld := fun w h => (List.mem_cons.mp h).elim (fun e => by rw [e]; exact xm_tb_good _ jc_eld) (fun h => xm_tb_good _ h)
theorem jc_get : Cond.code jy_get jb_get 2 (some (.object "java/lang/Object")) ∈ xm_tb := xm_code_of (List.mem_append_left _ (List.mem_of_getElem? (i := 225) rfl))
theorem jg_get : GoodIn xm_tb jw_get := fun w h => (List.mem_cons.mp h).elim (fun e => by rw [e]; exact xm_tb_good _ jc_get) (fun h => xm_tb_good _ h)
theorem jc_set : Cond.code jy_set jb_set 4 (some (.object "java/lang/Object")) ∈ xm_tb := xm_code_of (List.mem_append_right _ (List.mem_append_right _ (List.mem_append_right _ (List.mem_append_left _ (List.mem_of_getElem? (i := 28) rfl)))))
theorem jg_set : GoodIn xm_tb jw_set := fun w h => (List.mem_cons.mp h).elim (fun e => by rw [e]; exact xm_tb_good _ jc_set) (fun h => xm_tb_good _ h)
theorem jc_rem : Cond.code jy_rem jb_rem 4 (some (.object "java/lang/Object")) ∈ xm_tb := xm_code_of (List.mem_append_right _ (List.mem_append_right _ (List.mem_append_left _ (List.mem_of_getElem? (i := 166) rfl))))
theorem jg_rem : GoodIn xm_tb jw_rem := fun w h => (List.mem_cons.mp h).elim (fun e => by rw [e]; exact xm_tb_good _ jc_rem) (fun h => xm_tb_good _ h)
theorem jc_frm : Cond.code jy_frm jb_frm 4 none ∈ xm_tb := xm_code_of (List.mem_append_right _ (List.mem_append_right _ (List.mem_append_left _ (List.mem_of_getElem? (i := 170) rfl))))
theorem jg_frm : GoodIn xm_tb jw_frm := fun w h => (List.mem_cons.mp h).elim (fun e => by rw [e]; exact xm_tb_good _ jc_frm) (fun h => xm_tb_good _ h)
theorem jc_ini : Cond.code jy_ini jb_ini 1 none ∈ xm_tb := xm_code_of (List.mem_append_left _ (List.mem_of_getElem? (i := 34) rfl))
theorem jg_ini : GoodIn xm_tb jw_ini := fun w h => (List.mem_cons.mp h).elim (fun e => by rw [e]; exact xm_tb_good _ jc_ini) (fun h => xm_tb_good _ h)
theorem jc_ali : Cond.code jy_ali jb_ali 1 none ∈ xm_tb := xm_code_of (List.mem_append_left _ (List.mem_of_getElem? (i := 37) rfl))
theorem jg_ali : GoodIn xm_tb jw_ali := fun w h => (List.mem_cons.mp h).elim (fun e => by rw [e]; exact xm_tb_good _ jc_ali) (fun h => xm_tb_good _ h)
theorem jc_aci : Cond.code jy_aci jb_aci 1 none ∈ xm_tb := xm_code_of (List.mem_append_left _ (List.mem_of_getElem? (i := 40) rfl))
theorem jg_aci : GoodIn xm_tb jw_aci := fun w h => (List.mem_cons.mp h).elim (fun e => by rw [e]; exact xm_tb_good _ jc_aci) (fun h => xm_tb_good _ h)
theorem jc_add : Cond.code jy_add jb_add 2 (some .boolean) ∈ xm_tb := xm_code_of (List.mem_append_left _ (List.mem_of_getElem? (i := 157) rfl))
theorem jg_add : GoodIn xm_tb jw_add := fun w h => (List.mem_cons.mp h).elim (fun e => by rw [e]; exact xm_tb_good _ jc_add) (fun h => xm_tb_good _ h)
theorem jc_ad3 : Cond.code jy_ad3 jb_ad3 4 none ∈ xm_tb := xm_code_of (List.mem_append_left _ (List.mem_of_getElem? (i := 161) rfl))
theorem jg_ad3 : GoodIn xm_tb jw_ad3 := fun w h => (List.mem_cons.mp h).elim (fun e => by rw [e]; exact xm_tb_good _ jc_ad3) (fun h => xm_tb_good _ h)
theorem jc_gr0 : Cond.code jy_gr0 jb_gr0 1 (some (.array (.object "java/lang/Object"))) ∈ xm_tb := xm_code_of (List.mem_append_left _ (List.mem_of_getElem? (i := 165) rfl))
theorem jg_gr0 : GoodIn xm_tb jw_gr0 := fun w h => (List.mem_cons.mp h).elim (fun e => by rw [e]; exact xm_tb_good _ jc_gr0) (fun h => xm_tb_good _ h)
theorem jc_gr1 : Cond.code jy_gr1 jb_gr1 4 (some (.array (.object "java/lang/Object"))) ∈ xm_tb := xm_code_of (List.mem_append_left _ (List.mem_of_getElem? (i := 169) rfl))
theorem jg_gr1 : GoodIn xm_tb jw_gr1 := fun w h => (List.mem_cons.mp h).elim (fun e => by rw [e]; exact xm_tb_good _ jc_gr1) (fun h => xm_tb_good _ h)
theorem jc_nln : Cond.code jy_nln jb_nln 4 (some .int) ∈ xm_tb := xm_code_of (List.mem_append_left _ (List.mem_of_getElem? (i := 172) rfl))
theorem jg_nln : GoodIn xm_tb jw_nln := fun w h => (List.mem_cons.mp h).elim (fun e => by rw [e]; exact xm_tb_good _ jc_nln) (fun h => xm_tb_good _ h)
theorem jc_cp2 : Cond.code jy_cp2 jb_cp2 2 (some (.array (.object "java/lang/Object"))) ∈ xm_tb := xm_code_of (List.mem_append_left _ (List.mem_of_getElem? (i := 182) rfl))
theorem jg_cp2 : GoodIn xm_tb jw_cp2 := fun w h => (List.mem_cons.mp h).elim (fun e => by rw [e]; exact xm_tb_good _ jc_cp2) (fun h => xm_tb_good _ h)
theorem jc_cp3 : Cond.code jy_cp3 jb_cp3 4 (some (.array (.object "java/lang/Object"))) ∈ xm_tb := xm_code_of (List.mem_append_left _ (List.mem_of_getElem? (i := 202) rfl))
theorem jg_cp3 : GoodIn xm_tb jw_cp3 := fun w h => (List.mem_cons.mp h).elim (fun e => by rw [e]; exact xm_tb_good _ jc_cp3) (fun h => xm_tb_good _ h)
theorem jf_ed : Cond.fieldLink "java/util/ArrayList" 9 "java/util/ArrayList" "elementData" "[Ljava/lang/Object;" ∈ xm_tb := xj_in (List.mem_append_left _ (List.mem_of_getElem? (i := 44) rfl)) rfl
theorem jf_sz : Cond.fieldLink "java/util/ArrayList" 48 "java/util/ArrayList" "size" "I" ∈ xm_tb := xj_in (List.mem_append_left _ (List.mem_of_getElem? (i := 45) rfl)) rfl
theorem jf_mc : Cond.fieldLink "java/util/ArrayList" 63 "java/util/ArrayList" "modCount" "I" ∈ xm_tb := xj_in (List.mem_append_left _ (List.mem_of_getElem? (i := 47) rfl)) rfl
theorem jf_de : Cond.fieldLink "java/util/ArrayList" 39 "java/util/ArrayList" "DEFAULTCAPACITY_EMPTY_ELEMENTDATA" "[Ljava/lang/Object;" ∈ xm_tb := xj_in (List.mem_append_left _ (List.mem_of_getElem? (i := 42) rfl)) rfl
theorem jf_am : Cond.fieldLink "java/util/AbstractList" 7 "java/util/AbstractList" "modCount" "I" ∈ xm_tb := xj_in (List.mem_append_left _ (List.mem_of_getElem? (i := 46) rfl)) rfl
theorem jm_oci : Cond.methodLink "java/util/ArrayList" 118 ⟨"java/util/Objects", "checkIndex", "(II)I"⟩ ∈ xm_tb := xj_in (List.mem_append_left _ (List.mem_of_getElem? (i := 226) rfl)) rfl
theorem jm_pci : Cond.methodLink "java/util/Objects" 105 ⟨"jdk/internal/util/Preconditions", "checkIndex", "(IILjava/util/function/BiFunction;)I"⟩ ∈ xm_tb := xj_in (List.mem_append_left _ (List.mem_of_getElem? (i := 229) rfl)) rfl
theorem jm_eld : Cond.methodLink "java/util/ArrayList" 123 ⟨"java/util/ArrayList", "elementData", "(I)Ljava/lang/Object;"⟩ ∈ xm_tb := xj_in (List.mem_append_left _ (List.mem_of_getElem? (i := 232) rfl)) rfl
theorem jm_frm : Cond.methodLink "java/util/ArrayList" 144 ⟨"java/util/ArrayList", "fastRemove", "([Ljava/lang/Object;I)V"⟩ ∈ xm_tb := xj_in (List.mem_append_right _ (List.mem_append_right _ (List.mem_append_left _ (List.mem_of_getElem? (i := 167) rfl)))) rfl
theorem jm_ad3 : Cond.methodLink "java/util/ArrayList" 131 ⟨"java/util/ArrayList", "add", "(Ljava/lang/Object;[Ljava/lang/Object;I)V"⟩ ∈ xm_tb := xj_in (List.mem_append_left _ (List.mem_of_getElem? (i := 158) rfl)) rfl
theorem jm_gr0 : Cond.methodLink "java/util/ArrayList" 129 ⟨"java/util/ArrayList", "grow", "()[Ljava/lang/Object;"⟩ ∈ xm_tb := xj_in (List.mem_append_left _ (List.mem_of_getElem? (i := 162) rfl)) rfl
theorem jm_gr1 : Cond.methodLink "java/util/ArrayList" 69 ⟨"java/util/ArrayList", "grow", "(I)[Ljava/lang/Object;"⟩ ∈ xm_tb := xj_in (List.mem_append_left _ (List.mem_of_getElem? (i := 166) rfl)) rfl
theorem jm_nln : Cond.methodLink "java/util/ArrayList" 73 ⟨"jdk/internal/util/ArraysSupport", "newLength", "(III)I"⟩ ∈ xm_tb := xj_in (List.mem_append_left _ (List.mem_of_getElem? (i := 170) rfl)) rfl
theorem jm_cp2 : Cond.methodLink "java/util/ArrayList" 66 ⟨"java/util/Arrays", "copyOf", "([Ljava/lang/Object;I)[Ljava/lang/Object;"⟩ ∈ xm_tb := xj_in (List.mem_append_left _ (List.mem_of_getElem? (i := 180) rfl)) rfl
theorem jm_max : Cond.methodLink "java/util/ArrayList" 79 ⟨"java/lang/Math", "max", "(II)I"⟩ ∈ xm_tb := xj_in (List.mem_append_left _ (List.mem_of_getElem? (i := 212) rfl)) rfl
theorem jm_mxs : Cond.methodLink "jdk/internal/util/ArraysSupport" 194 ⟨"java/lang/Math", "max", "(II)I"⟩ ∈ xm_tb := xj_in (List.mem_append_left _ (List.mem_of_getElem? (i := 173) rfl)) rfl
theorem jm_gcl : Cond.methodLink "java/util/Arrays" 86 ⟨"java/lang/Object", "getClass", "()Ljava/lang/Class;"⟩ ∈ xm_tb := xj_in (List.mem_append_left _ (List.mem_of_getElem? (i := 183) rfl)) rfl
theorem jm_cp3 : Cond.methodLink "java/util/Arrays" 300 ⟨"java/util/Arrays", "copyOf", "([Ljava/lang/Object;ILjava/lang/Class;)[Ljava/lang/Object;"⟩ ∈ xm_tb := xj_in (List.mem_append_left _ (List.mem_of_getElem? (i := 200) rfl)) rfl
theorem jm_min : Cond.methodLink "java/util/Arrays" 304 ⟨"java/lang/Math", "min", "(II)I"⟩ ∈ xm_tb := xj_in (List.mem_append_left _ (List.mem_of_getElem? (i := 206) rfl)) rfl
theorem jm_ac1 : Cond.methodLink "java/util/ArrayList" 112 ⟨"java/lang/System", "arraycopy", "(Ljava/lang/Object;ILjava/lang/Object;II)V"⟩ ∈ xm_tb := xj_in (List.mem_append_right _ (List.mem_append_right _ (List.mem_append_left _ (List.mem_of_getElem? (i := 171) rfl)))) rfl
theorem jm_ac2 : Cond.methodLink "java/util/Arrays" 150 ⟨"java/lang/System", "arraycopy", "(Ljava/lang/Object;ILjava/lang/Object;II)V"⟩ ∈ xm_tb := xj_in (List.mem_append_left _ (List.mem_of_getElem? (i := 209) rfl)) rfl
theorem jm_ali : Cond.methodLink "java/util/ArrayList" 1 ⟨"java/util/AbstractList", "<init>", "()V"⟩ ∈ xm_tb := xj_in (List.mem_append_left _ (List.mem_of_getElem? (i := 35) rfl)) rfl
theorem jm_aci : Cond.methodLink "java/util/AbstractList" 1 ⟨"java/util/AbstractCollection", "<init>", "()V"⟩ ∈ xm_tb := xj_in (List.mem_append_left _ (List.mem_of_getElem? (i := 38) rfl)) rfl
theorem jm_obi : Cond.methodLink "java/util/AbstractCollection" 1 ⟨"java/lang/Object", "<init>", "()V"⟩ ∈ xm_tb := xj_in (List.mem_append_left _ (List.mem_of_getElem? (i := 41) rfl)) rfl
theorem js_pci : Cond.static jy_pci ∈ xm_tb := xj_in (List.mem_append_left _ (List.mem_of_getElem? (i := 230) rfl)) rfl
theorem js_oci : Cond.static jy_oci ∈ xm_tb := xj_in (List.mem_append_left _ (List.mem_of_getElem? (i := 227) rfl)) rfl
theorem js_nln : Cond.static jy_nln ∈ xm_tb := xj_in (List.mem_append_left _ (List.mem_of_getElem? (i := 171) rfl)) rfl
theorem js_cp2 : Cond.static jy_cp2 ∈ xm_tb := xj_in (List.mem_append_left _ (List.mem_of_getElem? (i := 181) rfl)) rfl
theorem js_cp3 : Cond.static jy_cp3 ∈ xm_tb := xj_in (List.mem_append_left _ (List.mem_of_getElem? (i := 201) rfl)) rfl
theorem ji_size : Cond.instanceMethod jy_size ∈ xm_tb := xj_in (List.mem_append_left _ (List.mem_of_getElem? (i := 127) rfl)) rfl
theorem ji_emp : Cond.instanceMethod jy_emp ∈ xm_tb := xj_in (List.mem_append_right _ (List.mem_append_right _ (List.mem_append_left _ (List.mem_of_getElem? (i := 209) rfl)))) rfl
theorem ji_eld : Cond.instanceMethod jy_eld ∈ xm_tb := xj_in (List.mem_append_left _ (List.mem_of_getElem? (i := 233) rfl)) rfl
theorem ji_get : Cond.instanceMethod jy_get ∈ xm_tb := xj_in (List.mem_append_left _ (List.mem_of_getElem? (i := 223) rfl)) rfl
theorem ji_set : Cond.instanceMethod jy_set ∈ xm_tb := xj_in (List.mem_append_right _ (List.mem_append_right _ (List.mem_append_right _ (List.mem_append_left _ (List.mem_of_getElem? (i := 26) rfl))))) rfl
theorem ji_rem : Cond.instanceMethod jy_rem ∈ xm_tb := xj_in (List.mem_append_right _ (List.mem_append_right _ (List.mem_append_left _ (List.mem_of_getElem? (i := 164) rfl)))) rfl
theorem ji_frm : Cond.instanceMethod jy_frm ∈ xm_tb := xj_in (List.mem_append_right _ (List.mem_append_right _ (List.mem_append_left _ (List.mem_of_getElem? (i := 169) rfl)))) rfl
theorem ji_ini : Cond.instanceMethod jy_ini ∈ xm_tb := xj_in (List.mem_append_left _ (List.mem_of_getElem? (i := 33) rfl)) rfl
theorem ji_ali : Cond.instanceMethod jy_ali ∈ xm_tb := xj_in (List.mem_append_left _ (List.mem_of_getElem? (i := 36) rfl)) rfl
theorem ji_aci : Cond.instanceMethod jy_aci ∈ xm_tb := xj_in (List.mem_append_left _ (List.mem_of_getElem? (i := 39) rfl)) rfl
theorem ji_add : Cond.instanceMethod jy_add ∈ xm_tb := xj_in (List.mem_append_left _ (List.mem_of_getElem? (i := 155) rfl)) rfl
theorem ji_ad3 : Cond.instanceMethod jy_ad3 ∈ xm_tb := xj_in (List.mem_append_left _ (List.mem_of_getElem? (i := 160) rfl)) rfl
theorem ji_gr0 : Cond.instanceMethod jy_gr0 ∈ xm_tb := xj_in (List.mem_append_left _ (List.mem_of_getElem? (i := 164) rfl)) rfl
theorem ji_gr1 : Cond.instanceMethod jy_gr1 ∈ xm_tb := xj_in (List.mem_append_left _ (List.mem_of_getElem? (i := 168) rfl)) rfl
theorem jn_pre : Cond.initialized "jdk/internal/util/Preconditions" ∈ xm_tb := xj_in (List.mem_append_left _ (List.mem_of_getElem? (i := 13) rfl)) rfl
theorem jn_obj : Cond.initialized "java/util/Objects" ∈ xm_tb := xj_in (List.mem_append_left _ (List.mem_of_getElem? (i := 12) rfl)) rfl
theorem jn_al : Cond.initialized "java/util/ArrayList" ∈ xm_tb := xj_in (List.mem_append_left _ (List.mem_of_getElem? (i := 4) rfl)) rfl
theorem jn_abl : Cond.initialized "java/util/AbstractList" ∈ xm_tb := xj_in (List.mem_append_left _ (List.mem_of_getElem? (i := 3) rfl)) rfl
theorem jn_abc : Cond.initialized "java/util/AbstractCollection" ∈ xm_tb := xj_in (List.mem_append_left _ (List.mem_of_getElem? (i := 2) rfl)) rfl
theorem jn_sup : Cond.initialized "jdk/internal/util/ArraysSupport" ∈ xm_tb := xj_in (List.mem_append_left _ (List.mem_of_getElem? (i := 8) rfl)) rfl
theorem jn_arr : Cond.initialized "java/util/Arrays" ∈ xm_tb := xj_in (List.mem_append_left _ (List.mem_of_getElem? (i := 10) rfl)) rfl
theorem jn_mat : Cond.initialized "java/lang/Math" ∈ xm_tb := xj_in (List.mem_append_left _ (List.mem_of_getElem? (i := 9) rfl)) rfl
theorem jn_sys : Cond.initialized "java/lang/System" ∈ xm_tb := xj_in (List.mem_append_left _ (List.mem_of_getElem? (i := 11) rfl)) rfl
theorem jt_nat : Cond.native arraycopyName ∈ xm_tb := xj_in (List.mem_append_left _ (List.mem_of_getElem? (i := 211) rfl)) rfl
theorem jt_sta : Cond.static arraycopyName ∈ xm_tb := xj_in (List.mem_append_left _ (List.mem_of_getElem? (i := 210) rfl)) rfl
theorem jo_code : Cond.code objectInit ⟨#[0xb1]⟩ 1 none ∈ xm_tb := xm_code_of (List.mem_append_left _ (List.mem_of_getElem? (i := 29) rfl))
theorem jo_inst : Cond.instanceMethod objectInit ∈ xm_tb := xj_in (List.mem_append_left _ (List.mem_of_getElem? (i := 28) rfl)) rfl
theorem jz_max : Cond.code Lib.Math.max.name Lib.Math.max.code 2 (some .int) ∈ xm_tb := xm_code_of (List.mem_append_left _ (List.mem_of_getElem? (i := 175) rfl))
theorem jzs_max : Cond.static Lib.Math.max.name ∈ xm_tb := xj_in (List.mem_append_left _ (List.mem_of_getElem? (i := 174) rfl)) rfl
theorem jz_min : Cond.code Lib.Math.min.name Lib.Math.min.code 2 (some .int) ∈ xm_tb := xm_code_of (List.mem_append_left _ (List.mem_of_getElem? (i := 208) rfl))
theorem jzs_min : Cond.static Lib.Math.min.name ∈ xm_tb := xj_in (List.mem_append_left _ (List.mem_of_getElem? (i := 207) rfl)) rfl
theorem jz_abs : Cond.code Lib.Math.abs.name Lib.Math.abs.code 1 (some .int) ∈ xm_tb := xm_code_of (List.mem_append_right _ (List.mem_append_right _ (List.mem_append_right _ (List.mem_append_left _ (List.mem_of_getElem? (i := 53) rfl)))))
theorem jzs_abs : Cond.static Lib.Math.abs.name ∈ xm_tb := xj_in (List.mem_append_right _ (List.mem_append_right _ (List.mem_append_right _ (List.mem_append_left _ (List.mem_of_getElem? (i := 52) rfl))))) rfl
theorem jg_inst : Cond.instanceMethod ⟨"java/lang/Object", "getClass", "()Ljava/lang/Class;"⟩ ∈ xm_tb := xj_in (List.mem_append_left _ (List.mem_of_getElem? (i := 184) rfl)) rfl
theorem jg_sel : Cond.selects "[Ljava/lang/Object;" ⟨"java/lang/Object", "getClass", "()Ljava/lang/Class;"⟩ ⟨"java/lang/Object", "getClass", "()Ljava/lang/Class;"⟩ ∈ xm_tb := xj_in (List.mem_append_right _ (List.mem_append_right _ (List.mem_append_right _ (List.mem_append_right _ (List.mem_append_right _ (List.mem_append_right _ (List.mem_of_getElem? (i := 214) rfl))))))) rfl
theorem jg_nat : Cond.native ⟨"java/lang/Object", "getClass", "()Ljava/lang/Class;"⟩ ∈ xm_tb := xj_in (List.mem_append_left _ (List.mem_of_getElem? (i := 199) rfl)) rfl
theorem jk_oa : Cond.classLink "java/util/Arrays" 110 "[Ljava/lang/Object;" ∈ xm_tb := xj_in (List.mem_append_left _ (List.mem_of_getElem? (i := 203) rfl)) rfl
theorem jk_ob1 : Cond.classLink "java/util/ArrayList" 7 "java/lang/Object" ∈ xm_tb := xj_in (List.mem_append_left _ (List.mem_of_getElem? (i := 213) rfl)) rfl
theorem jk_ob2 : Cond.classLink "java/util/Arrays" 2 "java/lang/Object" ∈ xm_tb := xj_in (List.mem_append_left _ (List.mem_of_getElem? (i := 205) rfl)) rfl
theorem jk_c : Cond.constant "jdk/internal/util/ArraysSupport" 200 2147483639 ∈ xm_tb := xj_in (List.mem_append_left _ (List.mem_of_getElem? (i := 176) rfl)) rfl
theorem jx_same : Cond.sameField "java/util/ArrayList" "java/util/AbstractList" "modCount" "I" ∈ xm_tb := xj_in (List.mem_append_left _ (List.mem_of_getElem? (i := 48) rfl)) rfl
theorem jv_size : Cond.selects "java/util/ArrayList" jy_size jy_size ∈ xm_tb := xj_in (List.mem_append_left _ (List.mem_of_getElem? (i := 128) rfl)) rfl
theorem jv_emp : Cond.selects "java/util/ArrayList" jy_emp jy_emp ∈ xm_tb := xj_in (List.mem_append_right _ (List.mem_append_right _ (List.mem_append_left _ (List.mem_of_getElem? (i := 210) rfl)))) rfl
theorem jv_eld : Cond.selects "java/util/ArrayList" jy_eld jy_eld ∈ xm_tb := xj_in (List.mem_append_left _ (List.mem_of_getElem? (i := 234) rfl)) rfl
theorem jv_get : Cond.selects "java/util/ArrayList" jy_get jy_get ∈ xm_tb := xj_in (List.mem_append_left _ (List.mem_of_getElem? (i := 224) rfl)) rfl
theorem jv_set : Cond.selects "java/util/ArrayList" jy_set jy_set ∈ xm_tb := xj_in (List.mem_append_right _ (List.mem_append_right _ (List.mem_append_right _ (List.mem_append_left _ (List.mem_of_getElem? (i := 27) rfl))))) rfl
theorem jv_rem : Cond.selects "java/util/ArrayList" jy_rem jy_rem ∈ xm_tb := xj_in (List.mem_append_right _ (List.mem_append_right _ (List.mem_append_left _ (List.mem_of_getElem? (i := 165) rfl)))) rfl
theorem jv_frm : Cond.selects "java/util/ArrayList" jy_frm jy_frm ∈ xm_tb := List.mem_filter.mpr ⟨List.mem_append_left _ (List.mem_of_getElem? (i := 25) (by decide +kernel)), rfl⟩
theorem jv_add : Cond.selects "java/util/ArrayList" jy_add jy_add ∈ xm_tb := xj_in (List.mem_append_left _ (List.mem_of_getElem? (i := 156) rfl)) rfl
theorem jv_ad3 : Cond.selects "java/util/ArrayList" jy_ad3 jy_ad3 ∈ xm_tb := List.mem_filter.mpr ⟨List.mem_append_left _ (List.mem_of_getElem? (i := 0) (by decide +kernel)), rfl⟩
theorem jv_gr0 : Cond.selects "java/util/ArrayList" jy_gr0 jy_gr0 ∈ xm_tb := List.mem_filter.mpr ⟨List.mem_append_left _ (List.mem_of_getElem? (i := 1) (by decide +kernel)), rfl⟩
theorem jv_gr1 : Cond.selects "java/util/ArrayList" jy_gr1 jy_gr1 ∈ xm_tb := List.mem_filter.mpr ⟨List.mem_append_left _ (List.mem_of_getElem? (i := 2) (by decide +kernel)), rfl⟩
theorem jp_pci : jy_pci.cls ≠ "java/lang/invoke/MethodHandle" ∧ jy_pci.cls ≠ "java/lang/invoke/VarHandle" ∧ (parseMethodDescriptor jy_pci.desc).map (fun d => d.parameters.length) = some 3 := by decide +kernel
theorem jp_oci : jy_oci.cls ≠ "java/lang/invoke/MethodHandle" ∧ jy_oci.cls ≠ "java/lang/invoke/VarHandle" ∧ (parseMethodDescriptor jy_oci.desc).map (fun d => d.parameters.length) = some 2 := by decide +kernel
theorem jp_size : jy_size.cls ≠ "java/lang/invoke/MethodHandle" ∧ jy_size.cls ≠ "java/lang/invoke/VarHandle" ∧ (parseMethodDescriptor jy_size.desc).map (fun d => d.parameters.length) = some 0 := by decide +kernel
theorem jp_emp : jy_emp.cls ≠ "java/lang/invoke/MethodHandle" ∧ jy_emp.cls ≠ "java/lang/invoke/VarHandle" ∧ (parseMethodDescriptor jy_emp.desc).map (fun d => d.parameters.length) = some 0 := by decide +kernel
theorem jp_eld : jy_eld.cls ≠ "java/lang/invoke/MethodHandle" ∧ jy_eld.cls ≠ "java/lang/invoke/VarHandle" ∧ (parseMethodDescriptor jy_eld.desc).map (fun d => d.parameters.length) = some 1 := by decide +kernel
theorem jp_get : jy_get.cls ≠ "java/lang/invoke/MethodHandle" ∧ jy_get.cls ≠ "java/lang/invoke/VarHandle" ∧ (parseMethodDescriptor jy_get.desc).map (fun d => d.parameters.length) = some 1 := by decide +kernel
theorem jp_set : jy_set.cls ≠ "java/lang/invoke/MethodHandle" ∧ jy_set.cls ≠ "java/lang/invoke/VarHandle" ∧ (parseMethodDescriptor jy_set.desc).map (fun d => d.parameters.length) = some 2 := by decide +kernel
theorem jp_rem : jy_rem.cls ≠ "java/lang/invoke/MethodHandle" ∧ jy_rem.cls ≠ "java/lang/invoke/VarHandle" ∧ (parseMethodDescriptor jy_rem.desc).map (fun d => d.parameters.length) = some 1 := by decide +kernel
theorem jp_frm : jy_frm.cls ≠ "java/lang/invoke/MethodHandle" ∧ jy_frm.cls ≠ "java/lang/invoke/VarHandle" ∧ (parseMethodDescriptor jy_frm.desc).map (fun d => d.parameters.length) = some 2 := by decide +kernel
theorem jp_ini : jy_ini.cls ≠ "java/lang/invoke/MethodHandle" ∧ jy_ini.cls ≠ "java/lang/invoke/VarHandle" ∧ (parseMethodDescriptor jy_ini.desc).map (fun d => d.parameters.length) = some 0 := by decide +kernel
theorem jp_ali : jy_ali.cls ≠ "java/lang/invoke/MethodHandle" ∧ jy_ali.cls ≠ "java/lang/invoke/VarHandle" ∧ (parseMethodDescriptor jy_ali.desc).map (fun d => d.parameters.length) = some 0 := by decide +kernel
theorem jp_aci : jy_aci.cls ≠ "java/lang/invoke/MethodHandle" ∧ jy_aci.cls ≠ "java/lang/invoke/VarHandle" ∧ (parseMethodDescriptor jy_aci.desc).map (fun d => d.parameters.length) = some 0 := by decide +kernel
theorem jp_add : jy_add.cls ≠ "java/lang/invoke/MethodHandle" ∧ jy_add.cls ≠ "java/lang/invoke/VarHandle" ∧ (parseMethodDescriptor jy_add.desc).map (fun d => d.parameters.length) = some 1 := by decide +kernel
theorem jp_ad3 : jy_ad3.cls ≠ "java/lang/invoke/MethodHandle" ∧ jy_ad3.cls ≠ "java/lang/invoke/VarHandle" ∧ (parseMethodDescriptor jy_ad3.desc).map (fun d => d.parameters.length) = some 3 := by decide +kernel
theorem jp_gr0 : jy_gr0.cls ≠ "java/lang/invoke/MethodHandle" ∧ jy_gr0.cls ≠ "java/lang/invoke/VarHandle" ∧ (parseMethodDescriptor jy_gr0.desc).map (fun d => d.parameters.length) = some 0 := by decide +kernel
theorem jp_gr1 : jy_gr1.cls ≠ "java/lang/invoke/MethodHandle" ∧ jy_gr1.cls ≠ "java/lang/invoke/VarHandle" ∧ (parseMethodDescriptor jy_gr1.desc).map (fun d => d.parameters.length) = some 1 := by decide +kernel
theorem jp_nln : jy_nln.cls ≠ "java/lang/invoke/MethodHandle" ∧ jy_nln.cls ≠ "java/lang/invoke/VarHandle" ∧ (parseMethodDescriptor jy_nln.desc).map (fun d => d.parameters.length) = some 3 := by decide +kernel
theorem jp_cp2 : jy_cp2.cls ≠ "java/lang/invoke/MethodHandle" ∧ jy_cp2.cls ≠ "java/lang/invoke/VarHandle" ∧ (parseMethodDescriptor jy_cp2.desc).map (fun d => d.parameters.length) = some 2 := by decide +kernel
theorem jp_cp3 : jy_cp3.cls ≠ "java/lang/invoke/MethodHandle" ∧ jy_cp3.cls ≠ "java/lang/invoke/VarHandle" ∧ (parseMethodDescriptor jy_cp3.desc).map (fun d => d.parameters.length) = some 3 := by decide +kernel
