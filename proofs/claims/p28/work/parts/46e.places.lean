/-! ===== the words of the law stand in the tables ===== -/
theorem tb_X00 : ∀ w ∈ wsX00, w ∈ lw_tbl := by decide +kernel
theorem tb_X10 : ∀ w ∈ wsX10, w ∈ lw_tbl := by decide +kernel
theorem tb_X20 : ∀ w ∈ wsX20, w ∈ lw_tbl := by decide +kernel
theorem tb_X30 : ∀ w ∈ wsX30, w ∈ lw_tbl := by decide +kernel
theorem tb_X40 : ∀ w ∈ wsX40, w ∈ lw_tbl := by decide +kernel
theorem tb_X50 : ∀ w ∈ wsX50, w ∈ lw_tbl := by decide +kernel
theorem tb_X60 : ∀ w ∈ wsX60, w ∈ lw_tbl := by decide +kernel
theorem tb_x0 : ∀ w ∈ (vx_atS RX6 64 "java/lang/IllegalStateException" ["java/lang/RuntimeException", "java/lang/Exception"]).filter goodWord, w ∈ lw_tbl := by decide +kernel
theorem tb_x1 : ∀ w ∈ (vx_atS RX6 99 "java/lang/IndexOutOfBoundsException" ["java/lang/RuntimeException", "java/lang/Exception"]).filter goodWord, w ∈ lw_tbl := by decide +kernel
theorem tb_x2 : ∀ w ∈ (vx_atS RX6 54 "java/lang/IllegalArgumentException" ["java/lang/RuntimeException", "java/lang/Exception"]).filter goodWord, w ∈ lw_tbl := by decide +kernel
theorem tb_law0 : ∀ w ∈ wsL_law0, w ∈ lw_tbl := List.forall_mem_append.mpr ⟨List.forall_mem_append.mpr ⟨List.forall_mem_append.mpr ⟨List.forall_mem_append.mpr ⟨List.forall_mem_append.mpr ⟨List.forall_mem_append.mpr ⟨List.forall_mem_append.mpr ⟨List.forall_mem_append.mpr ⟨List.forall_mem_append.mpr ⟨tb_r1, List.forall_mem_append.mpr ⟨tb_r2, List.forall_mem_append.mpr ⟨tb_r3, List.forall_mem_append.mpr ⟨tb_r4, List.forall_mem_append.mpr ⟨tb_r5, List.forall_mem_append.mpr ⟨tb_r6, List.forall_mem_append.mpr ⟨tb_r7, List.forall_mem_append.mpr ⟨tb_r8, List.forall_mem_append.mpr ⟨tb_r9, List.forall_mem_append.mpr ⟨tb_r10, List.forall_mem_append.mpr ⟨tb_r11, List.forall_mem_append.mpr ⟨tb_r12, List.forall_mem_append.mpr ⟨tb_r13, List.forall_mem_append.mpr ⟨tb_r14, List.forall_mem_append.mpr ⟨tb_r15, List.forall_mem_append.mpr ⟨tb_r16, List.forall_mem_append.mpr ⟨tb_r17, tb_r18⟩⟩⟩⟩⟩⟩⟩⟩⟩⟩⟩⟩⟩⟩⟩⟩⟩, tb_X60⟩, tb_X50⟩, tb_X30⟩, tb_X00⟩, tb_X40⟩, tb_X10⟩, tb_X20⟩, fun _ h => absurd h List.not_mem_nil⟩
theorem tb_law : ∀ w ∈ ALL, w ∈ lw_tbl := List.forall_mem_append.mpr ⟨List.forall_mem_append.mpr ⟨List.forall_mem_append.mpr ⟨tb_law0, tb_x0⟩, tb_x1⟩, tb_x2⟩
