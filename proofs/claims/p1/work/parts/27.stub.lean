theorem zz_cdk_mem : ∀ mk ∈ zz_mts, zz_cdk mk = true := sorry
