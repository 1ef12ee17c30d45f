/-! THE REFERENCE: contracts hold -/

