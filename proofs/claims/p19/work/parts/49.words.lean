/-! printed rows of NAMES that the contracts use -/

