def xISE : String := "java/lang/IllegalStateException"
def xIAE : String := "java/lang/IllegalArgumentException"
def xnm : List String := ["java/lang/RuntimeException", "java/lang/Exception"]
def xB : List Cond := [.castable xISE xISE, .castable xIAE xIAE, .declares ⟨"java/lang/RuntimeException", "<init>", "()V"⟩, .declares ⟨"java/lang/RuntimeException", "<init>", "(Ljava/lang/String;)V"⟩, .declares ⟨"java/lang/Exception", "<init>", "()V"⟩, .declares ⟨"java/lang/Exception", "<init>", "(Ljava/lang/String;)V"⟩, .declares ⟨"java/lang/Throwable", "<init>", "()V"⟩, .declares ⟨"java/lang/Throwable", "<init>", "(Ljava/lang/String;)V"⟩]
theorem xg1 : ∀ w ∈ (vx_atS RX0 81 xISE xnm).filter goodWord, w ∈ lw_tbl := by decide +kernel
theorem xg2 : ∀ w ∈ (vx_atS RX11 387 xIAE xnm).filter goodWord, w ∈ lw_tbl := by decide +kernel
theorem xg3 : ∀ w ∈ (vx_atS RX11 397 xISE xnm).filter goodWord, w ∈ lw_tbl := by decide +kernel
theorem xb1 : ∀ w ∈ (vx_atS RX0 81 xISE xnm).filter (fun w => !goodWord w), w ∈ xB := by decide +kernel
theorem xb2 : ∀ w ∈ (vx_atS RX11 387 xIAE xnm).filter (fun w => !goodWord w), w ∈ xB := by decide +kernel
theorem xb3 : ∀ w ∈ (vx_atS RX11 397 xISE xnm).filter (fun w => !goodWord w), w ∈ xB := by decide +kernel
theorem xo1 : ∀ w ∈ Cond.classLink RX0 77 xISE :: Cond.initialized xISE :: vx_atS RX0 81 xISE xnm, vx_ot w = true := by decide +kernel
theorem xo2 : ∀ w ∈ Cond.classLink RX11 383 xIAE :: Cond.initialized xIAE :: vx_atS RX11 387 xIAE xnm, vx_ot w = true := by decide +kernel
theorem xo3 : ∀ w ∈ Cond.classLink RX11 393 xISE :: Cond.initialized xISE :: vx_atS RX11 397 xISE xnm, vx_ot w = true := by decide +kernel
theorem xt : ∀ w ∈ xB, w ∈ lw_tbl := by decide +kernel
